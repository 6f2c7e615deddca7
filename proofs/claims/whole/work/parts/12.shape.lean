abbrev m_S : Type := (Nat → Nat → Option Nat) × (Nat → Nat × Nat) × Nat
def s_O (S : m_S) (a ci : Nat) : Prop := a < S.2.2 ∧ (S.2.1 a).1 = ci
def s_A (S : m_S) (a t n : Nat) : Prop := a < S.2.2 ∧ S.2.1 a = (100 + t, n)
def s_R (S : m_S) (a k b : Nat) : Prop := S.1 a k = some b
def isPlan (S : m_S) (p : Nat) : Prop := s_O S p 5 ∧ S.1 p 0 = some (p + 1) ∧ s_A S (p + 1) 0 8 ∧ S.1 p 1 = some (p + 2) ∧ s_A S (p + 2) 1 96 ∧ S.1 p 2 = some (p + 3) ∧ s_A S (p + 3) 0 12 ∧ S.1 p 3 = some (p + 4) ∧ s_A S (p + 4) 0 6 ∧ S.1 p 4 = some (p + 5) ∧ s_A S (p + 5) 0 16 ∧ S.1 p 5 = some (p + 6) ∧ s_A S (p + 6) 0 16 ∧ S.1 p 6 = some (p + 7) ∧ s_A S (p + 7) 0 16 ∧ S.1 p 7 = some (p + 8) ∧ s_A S (p + 8) 0 16 ∧ S.1 p 8 = some (p + 9) ∧ s_A S (p + 9) 0 8 ∧ S.1 p 9 = some (p + 10) ∧ s_A S (p + 10) 0 8 ∧ S.1 p 10 = some (p + 11) ∧ s_A S (p + 11) 0 10 ∧ S.1 p 11 = some (p + 12) ∧ s_A S (p + 12) 0 10 ∧ S.1 p 12 = some (p + 13) ∧ s_A S (p + 13) 0 60 ∧ S.1 p 13 = some (p + 14) ∧ s_A S (p + 14) 0 10 ∧ S.1 p 14 = some (p + 15) ∧ s_A S (p + 15) 0 10 ∧ S.1 p 15 = some (p + 16) ∧ s_A S (p + 16) 0 10 ∧ S.1 p 16 = some (p + 17) ∧ s_A S (p + 17) 0 10 ∧ S.1 p 17 = some (p + 18) ∧ s_A S (p + 18) 0 10 ∧ S.1 p 18 = some (p + 19) ∧ s_A S (p + 19) 0 5 ∧ S.1 p 19 = some (p + 20) ∧ s_A S (p + 20) 0 5
theorem pl_o {S : m_S} {p : Nat} (h : isPlan S p) : s_O S p 5 := h.1
theorem pl_r0 {S : m_S} {p : Nat} (h : isPlan S p) : S.1 p 0 = some (p + 1) := h.2.1
theorem pl_a0 {S : m_S} {p : Nat} (h : isPlan S p) : s_A S (p + 1) 0 8 := h.2.2.1
theorem pl_r1 {S : m_S} {p : Nat} (h : isPlan S p) : S.1 p 1 = some (p + 2) := h.2.2.2.1
theorem pl_a1 {S : m_S} {p : Nat} (h : isPlan S p) : s_A S (p + 2) 1 96 := h.2.2.2.2.1
theorem pl_r2 {S : m_S} {p : Nat} (h : isPlan S p) : S.1 p 2 = some (p + 3) := h.2.2.2.2.2.1
theorem pl_a2 {S : m_S} {p : Nat} (h : isPlan S p) : s_A S (p + 3) 0 12 := h.2.2.2.2.2.2.1
theorem pl_r3 {S : m_S} {p : Nat} (h : isPlan S p) : S.1 p 3 = some (p + 4) := h.2.2.2.2.2.2.2.1
theorem pl_a3 {S : m_S} {p : Nat} (h : isPlan S p) : s_A S (p + 4) 0 6 := h.2.2.2.2.2.2.2.2.1
theorem pl_r4 {S : m_S} {p : Nat} (h : isPlan S p) : S.1 p 4 = some (p + 5) := h.2.2.2.2.2.2.2.2.2.1
theorem pl_a4 {S : m_S} {p : Nat} (h : isPlan S p) : s_A S (p + 5) 0 16 := h.2.2.2.2.2.2.2.2.2.2.1
theorem pl_r5 {S : m_S} {p : Nat} (h : isPlan S p) : S.1 p 5 = some (p + 6) := h.2.2.2.2.2.2.2.2.2.2.2.1
theorem pl_a5 {S : m_S} {p : Nat} (h : isPlan S p) : s_A S (p + 6) 0 16 := h.2.2.2.2.2.2.2.2.2.2.2.2.1
theorem pl_r6 {S : m_S} {p : Nat} (h : isPlan S p) : S.1 p 6 = some (p + 7) := h.2.2.2.2.2.2.2.2.2.2.2.2.2.1
theorem pl_a6 {S : m_S} {p : Nat} (h : isPlan S p) : s_A S (p + 7) 0 16 := h.2.2.2.2.2.2.2.2.2.2.2.2.2.2.1
theorem pl_r7 {S : m_S} {p : Nat} (h : isPlan S p) : S.1 p 7 = some (p + 8) := h.2.2.2.2.2.2.2.2.2.2.2.2.2.2.2.1
theorem pl_a7 {S : m_S} {p : Nat} (h : isPlan S p) : s_A S (p + 8) 0 16 := h.2.2.2.2.2.2.2.2.2.2.2.2.2.2.2.2.1
theorem pl_r8 {S : m_S} {p : Nat} (h : isPlan S p) : S.1 p 8 = some (p + 9) := h.2.2.2.2.2.2.2.2.2.2.2.2.2.2.2.2.2.1
theorem pl_a8 {S : m_S} {p : Nat} (h : isPlan S p) : s_A S (p + 9) 0 8 := h.2.2.2.2.2.2.2.2.2.2.2.2.2.2.2.2.2.2.1
theorem pl_r9 {S : m_S} {p : Nat} (h : isPlan S p) : S.1 p 9 = some (p + 10) := h.2.2.2.2.2.2.2.2.2.2.2.2.2.2.2.2.2.2.2.1
theorem pl_a9 {S : m_S} {p : Nat} (h : isPlan S p) : s_A S (p + 10) 0 8 := h.2.2.2.2.2.2.2.2.2.2.2.2.2.2.2.2.2.2.2.2.1
theorem pl_r10 {S : m_S} {p : Nat} (h : isPlan S p) : S.1 p 10 = some (p + 11) := h.2.2.2.2.2.2.2.2.2.2.2.2.2.2.2.2.2.2.2.2.2.1
theorem pl_a10 {S : m_S} {p : Nat} (h : isPlan S p) : s_A S (p + 11) 0 10 := h.2.2.2.2.2.2.2.2.2.2.2.2.2.2.2.2.2.2.2.2.2.2.1
theorem pl_r11 {S : m_S} {p : Nat} (h : isPlan S p) : S.1 p 11 = some (p + 12) := h.2.2.2.2.2.2.2.2.2.2.2.2.2.2.2.2.2.2.2.2.2.2.2.1
theorem pl_a11 {S : m_S} {p : Nat} (h : isPlan S p) : s_A S (p + 12) 0 10 := h.2.2.2.2.2.2.2.2.2.2.2.2.2.2.2.2.2.2.2.2.2.2.2.2.1
theorem pl_r12 {S : m_S} {p : Nat} (h : isPlan S p) : S.1 p 12 = some (p + 13) := h.2.2.2.2.2.2.2.2.2.2.2.2.2.2.2.2.2.2.2.2.2.2.2.2.2.1
theorem pl_a12 {S : m_S} {p : Nat} (h : isPlan S p) : s_A S (p + 13) 0 60 := h.2.2.2.2.2.2.2.2.2.2.2.2.2.2.2.2.2.2.2.2.2.2.2.2.2.2.1
theorem pl_r13 {S : m_S} {p : Nat} (h : isPlan S p) : S.1 p 13 = some (p + 14) := h.2.2.2.2.2.2.2.2.2.2.2.2.2.2.2.2.2.2.2.2.2.2.2.2.2.2.2.1
theorem pl_a13 {S : m_S} {p : Nat} (h : isPlan S p) : s_A S (p + 14) 0 10 := h.2.2.2.2.2.2.2.2.2.2.2.2.2.2.2.2.2.2.2.2.2.2.2.2.2.2.2.2.1
theorem pl_r14 {S : m_S} {p : Nat} (h : isPlan S p) : S.1 p 14 = some (p + 15) := h.2.2.2.2.2.2.2.2.2.2.2.2.2.2.2.2.2.2.2.2.2.2.2.2.2.2.2.2.2.1
theorem pl_a14 {S : m_S} {p : Nat} (h : isPlan S p) : s_A S (p + 15) 0 10 := h.2.2.2.2.2.2.2.2.2.2.2.2.2.2.2.2.2.2.2.2.2.2.2.2.2.2.2.2.2.2.1
theorem pl_r15 {S : m_S} {p : Nat} (h : isPlan S p) : S.1 p 15 = some (p + 16) := h.2.2.2.2.2.2.2.2.2.2.2.2.2.2.2.2.2.2.2.2.2.2.2.2.2.2.2.2.2.2.2.1
theorem pl_a15 {S : m_S} {p : Nat} (h : isPlan S p) : s_A S (p + 16) 0 10 := h.2.2.2.2.2.2.2.2.2.2.2.2.2.2.2.2.2.2.2.2.2.2.2.2.2.2.2.2.2.2.2.2.1
theorem pl_r16 {S : m_S} {p : Nat} (h : isPlan S p) : S.1 p 16 = some (p + 17) := h.2.2.2.2.2.2.2.2.2.2.2.2.2.2.2.2.2.2.2.2.2.2.2.2.2.2.2.2.2.2.2.2.2.1
theorem pl_a16 {S : m_S} {p : Nat} (h : isPlan S p) : s_A S (p + 17) 0 10 := h.2.2.2.2.2.2.2.2.2.2.2.2.2.2.2.2.2.2.2.2.2.2.2.2.2.2.2.2.2.2.2.2.2.2.1
theorem pl_r17 {S : m_S} {p : Nat} (h : isPlan S p) : S.1 p 17 = some (p + 18) := h.2.2.2.2.2.2.2.2.2.2.2.2.2.2.2.2.2.2.2.2.2.2.2.2.2.2.2.2.2.2.2.2.2.2.2.1
theorem pl_a17 {S : m_S} {p : Nat} (h : isPlan S p) : s_A S (p + 18) 0 10 := h.2.2.2.2.2.2.2.2.2.2.2.2.2.2.2.2.2.2.2.2.2.2.2.2.2.2.2.2.2.2.2.2.2.2.2.2.1
theorem pl_r18 {S : m_S} {p : Nat} (h : isPlan S p) : S.1 p 18 = some (p + 19) := h.2.2.2.2.2.2.2.2.2.2.2.2.2.2.2.2.2.2.2.2.2.2.2.2.2.2.2.2.2.2.2.2.2.2.2.2.2.1
theorem pl_a18 {S : m_S} {p : Nat} (h : isPlan S p) : s_A S (p + 19) 0 5 := h.2.2.2.2.2.2.2.2.2.2.2.2.2.2.2.2.2.2.2.2.2.2.2.2.2.2.2.2.2.2.2.2.2.2.2.2.2.2.1
theorem pl_r19 {S : m_S} {p : Nat} (h : isPlan S p) : S.1 p 19 = some (p + 20) := h.2.2.2.2.2.2.2.2.2.2.2.2.2.2.2.2.2.2.2.2.2.2.2.2.2.2.2.2.2.2.2.2.2.2.2.2.2.2.2.1
theorem pl_a19 {S : m_S} {p : Nat} (h : isPlan S p) : s_A S (p + 20) 0 5 := h.2.2.2.2.2.2.2.2.2.2.2.2.2.2.2.2.2.2.2.2.2.2.2.2.2.2.2.2.2.2.2.2.2.2.2.2.2.2.2.2
def isState (S : m_S) (p : Nat) : Prop := s_O S p 8 ∧ S.1 p 8 = some (p + 1) ∧ s_A S (p + 1) 0 10 ∧ S.1 p 9 = some (p + 2) ∧ s_A S (p + 2) 0 10 ∧ S.1 p 10 = some (p + 3) ∧ s_A S (p + 3) 0 10 ∧ S.1 p 11 = some (p + 4) ∧ s_A S (p + 4) 0 5 ∧ S.1 p 12 = some (p + 5) ∧ s_A S (p + 5) 0 5 ∧ S.1 p 13 = some (p + 6) ∧ s_A S (p + 6) 0 5 ∧ S.1 p 0 = some 4
theorem sa_o {S : m_S} {p : Nat} (h : isState S p) : s_O S p 8 := h.1
theorem sa_r8 {S : m_S} {p : Nat} (h : isState S p) : S.1 p 8 = some (p + 1) := h.2.1
theorem sa_a8 {S : m_S} {p : Nat} (h : isState S p) : s_A S (p + 1) 0 10 := h.2.2.1
theorem sa_r9 {S : m_S} {p : Nat} (h : isState S p) : S.1 p 9 = some (p + 2) := h.2.2.2.1
theorem sa_a9 {S : m_S} {p : Nat} (h : isState S p) : s_A S (p + 2) 0 10 := h.2.2.2.2.1
theorem sa_r10 {S : m_S} {p : Nat} (h : isState S p) : S.1 p 10 = some (p + 3) := h.2.2.2.2.2.1
theorem sa_a10 {S : m_S} {p : Nat} (h : isState S p) : s_A S (p + 3) 0 10 := h.2.2.2.2.2.2.1
theorem sa_r11 {S : m_S} {p : Nat} (h : isState S p) : S.1 p 11 = some (p + 4) := h.2.2.2.2.2.2.2.1
theorem sa_a11 {S : m_S} {p : Nat} (h : isState S p) : s_A S (p + 4) 0 5 := h.2.2.2.2.2.2.2.2.1
theorem sa_r12 {S : m_S} {p : Nat} (h : isState S p) : S.1 p 12 = some (p + 5) := h.2.2.2.2.2.2.2.2.2.1
theorem sa_a12 {S : m_S} {p : Nat} (h : isState S p) : s_A S (p + 5) 0 5 := h.2.2.2.2.2.2.2.2.2.2.1
theorem sa_r13 {S : m_S} {p : Nat} (h : isState S p) : S.1 p 13 = some (p + 6) := h.2.2.2.2.2.2.2.2.2.2.2.1
theorem sa_a13 {S : m_S} {p : Nat} (h : isState S p) : s_A S (p + 6) 0 5 := h.2.2.2.2.2.2.2.2.2.2.2.2.1
theorem sa_r0 {S : m_S} {p : Nat} (h : isState S p) : S.1 p 0 = some 4 := h.2.2.2.2.2.2.2.2.2.2.2.2.2
def isSent (S : m_S) (p : Nat) : Prop := s_O S p 7 ∧ S.1 p 3 = some (p + 1) ∧ s_A S (p + 1) 0 40 ∧ S.1 p 4 = some (p + 2) ∧ s_A S (p + 2) 0 40 ∧ S.1 p 5 = some (p + 3) ∧ s_A S (p + 3) 0 40 ∧ S.1 p 6 = some (p + 4) ∧ s_A S (p + 4) 0 40
theorem se_o {S : m_S} {p : Nat} (h : isSent S p) : s_O S p 7 := h.1
theorem se_r3 {S : m_S} {p : Nat} (h : isSent S p) : S.1 p 3 = some (p + 1) := h.2.1
theorem se_a3 {S : m_S} {p : Nat} (h : isSent S p) : s_A S (p + 1) 0 40 := h.2.2.1
theorem se_r4 {S : m_S} {p : Nat} (h : isSent S p) : S.1 p 4 = some (p + 2) := h.2.2.2.1
theorem se_a4 {S : m_S} {p : Nat} (h : isSent S p) : s_A S (p + 2) 0 40 := h.2.2.2.2.1
theorem se_r5 {S : m_S} {p : Nat} (h : isSent S p) : S.1 p 5 = some (p + 3) := h.2.2.2.2.2.1
theorem se_a5 {S : m_S} {p : Nat} (h : isSent S p) : s_A S (p + 3) 0 40 := h.2.2.2.2.2.2.1
theorem se_r6 {S : m_S} {p : Nat} (h : isSent S p) : S.1 p 6 = some (p + 4) := h.2.2.2.2.2.2.2.1
theorem se_a6 {S : m_S} {p : Nat} (h : isSent S p) : s_A S (p + 4) 0 40 := h.2.2.2.2.2.2.2.2
def isText (S : m_S) : Prop := s_O S 1 10 ∧ S.1 1 0 = some 2 ∧ s_A S 2 0 1460 ∧ S.1 1 11 = some 3 ∧ s_A S 3 1 32
theorem tx_o {S : m_S} (h : isText S ) : s_O S 1 10 := h.1
theorem tx_r0 {S : m_S} (h : isText S ) : S.1 1 0 = some 2 := h.2.1
theorem tx_a0 {S : m_S} (h : isText S ) : s_A S 2 0 1460 := h.2.2.1
theorem tx_r11 {S : m_S} (h : isText S ) : S.1 1 11 = some 3 := h.2.2.2.1
theorem tx_a11 {S : m_S} (h : isText S ) : s_A S 3 1 32 := h.2.2.2.2
def isBook (S : m_S) : Prop := s_O S 126 0 ∧ S.1 126 0 = some 127 ∧ s_A S 127 0 40 ∧ S.1 126 1 = some 128 ∧ s_A S 128 0 40 ∧ S.1 126 2 = some 129 ∧ s_A S 129 0 40
theorem bo_o {S : m_S} (h : isBook S ) : s_O S 126 0 := h.1
theorem bo_r0 {S : m_S} (h : isBook S ) : S.1 126 0 = some 127 := h.2.1
theorem bo_a0 {S : m_S} (h : isBook S ) : s_A S 127 0 40 := h.2.2.1
theorem bo_r1 {S : m_S} (h : isBook S ) : S.1 126 1 = some 128 := h.2.2.2.1
theorem bo_a1 {S : m_S} (h : isBook S ) : s_A S 128 0 40 := h.2.2.2.2.1
theorem bo_r2 {S : m_S} (h : isBook S ) : S.1 126 2 = some 129 := h.2.2.2.2.2.1
theorem bo_a2 {S : m_S} (h : isBook S ) : s_A S 129 0 40 := h.2.2.2.2.2.2
def isCouns (S : m_S) : Prop := s_O S 141 1 ∧ S.1 141 0 = some 142 ∧ s_A S 142 0 16 ∧ S.1 141 2 = some 143 ∧ s_A S 143 0 10 ∧ S.1 141 4 = some 144 ∧ s_A S 144 0 12 ∧ S.1 141 5 = some 145 ∧ s_A S 145 0 10
theorem co_o {S : m_S} (h : isCouns S ) : s_O S 141 1 := h.1
theorem co_r0 {S : m_S} (h : isCouns S ) : S.1 141 0 = some 142 := h.2.1
theorem co_a0 {S : m_S} (h : isCouns S ) : s_A S 142 0 16 := h.2.2.1
theorem co_r2 {S : m_S} (h : isCouns S ) : S.1 141 2 = some 143 := h.2.2.2.1
theorem co_a2 {S : m_S} (h : isCouns S ) : s_A S 143 0 10 := h.2.2.2.2.1
theorem co_r4 {S : m_S} (h : isCouns S ) : S.1 141 4 = some 144 := h.2.2.2.2.2.1
theorem co_a4 {S : m_S} (h : isCouns S ) : s_A S 144 0 12 := h.2.2.2.2.2.2.1
theorem co_r5 {S : m_S} (h : isCouns S ) : S.1 141 5 = some 145 := h.2.2.2.2.2.2.2.1
theorem co_a5 {S : m_S} (h : isCouns S ) : s_A S 145 0 10 := h.2.2.2.2.2.2.2.2
def isDiag (S : m_S) : Prop := s_O S 146 2 ∧ S.1 146 0 = some 147 ∧ s_A S 147 0 25
theorem di_o {S : m_S} (h : isDiag S ) : s_O S 146 2 := h.1
theorem di_r0 {S : m_S} (h : isDiag S ) : S.1 146 0 = some 147 := h.2.1
theorem di_a0 {S : m_S} (h : isDiag S ) : s_A S 147 0 25 := h.2.2
def isTag (S : m_S) : Prop := s_O S 148 9 ∧ S.1 148 0 = some 149 ∧ s_A S 149 0 26
theorem tg_o {S : m_S} (h : isTag S ) : s_O S 148 9 := h.1
theorem tg_r0 {S : m_S} (h : isTag S ) : S.1 148 0 = some 149 := h.2.1
theorem tg_a0 {S : m_S} (h : isTag S ) : s_A S 149 0 26 := h.2.2
def isHist (S : m_S) : Prop := s_O S 61 3 ∧ S.1 61 0 = some 62 ∧ s_A S 62 4 9
theorem hi_o {S : m_S} (h : isHist S ) : s_O S 61 3 := h.1
theorem hi_r0 {S : m_S} (h : isHist S ) : S.1 61 0 = some 62 := h.2.1
theorem hi_a0 {S : m_S} (h : isHist S ) : s_A S 62 4 9 := h.2.2
def isRead (S : m_S) : Prop := s_O S 25 6 ∧ S.1 25 0 = some 26
theorem rd_o {S : m_S} (h : isRead S ) : s_O S 25 6 := h.1
theorem rd_r0 {S : m_S} (h : isRead S ) : S.1 25 0 = some 26 := h.2
def isImg (S : m_S) : Prop := s_O S 150 4 ∧ S.1 150 0 = some 151 ∧ S.1 150 1 = some 177 ∧ S.1 150 2 = some 172 ∧ s_O S 184 4 ∧ S.1 184 0 = some 185 ∧ S.1 184 1 = some 211 ∧ S.1 184 2 = some 206 ∧ s_A S 140 5 2 ∧ S.1 140 0 = some 150 ∧ S.1 140 1 = some 184
theorem im_Ao {S : m_S} (h : isImg S ) : s_O S 150 4 := h.1
theorem im_Ar0 {S : m_S} (h : isImg S ) : S.1 150 0 = some 151 := h.2.1
theorem im_Ar1 {S : m_S} (h : isImg S ) : S.1 150 1 = some 177 := h.2.2.1
theorem im_Ar2 {S : m_S} (h : isImg S ) : S.1 150 2 = some 172 := h.2.2.2.1
theorem im_Bo {S : m_S} (h : isImg S ) : s_O S 184 4 := h.2.2.2.2.1
theorem im_Br0 {S : m_S} (h : isImg S ) : S.1 184 0 = some 185 := h.2.2.2.2.2.1
theorem im_Br1 {S : m_S} (h : isImg S ) : S.1 184 1 = some 211 := h.2.2.2.2.2.2.1
theorem im_Br2 {S : m_S} (h : isImg S ) : S.1 184 2 = some 206 := h.2.2.2.2.2.2.2.1
theorem im_a {S : m_S} (h : isImg S ) : s_A S 140 5 2 := h.2.2.2.2.2.2.2.2.1
theorem im_e0 {S : m_S} (h : isImg S ) : S.1 140 0 = some 150 := h.2.2.2.2.2.2.2.2.2.1
theorem im_e1 {S : m_S} (h : isImg S ) : S.1 140 1 = some 184 := h.2.2.2.2.2.2.2.2.2.2
def isLF (S : m_S) : Prop := s_O S 0 11 ∧ S.1 0 0 = some 1 ∧ S.1 0 1 = some 4 ∧ S.1 0 2 = some 25 ∧ S.1 0 3 = some 47 ∧ S.1 0 4 = some 54 ∧ S.1 0 5 = some 61 ∧ S.1 0 6 = some 126 ∧ S.1 0 7 = some 130 ∧ S.1 0 8 = some 135 ∧ S.1 0 9 = some 140 ∧ S.1 0 10 = some 141 ∧ S.1 0 11 = some 146 ∧ S.1 0 12 = some 148
theorem lf_o {S : m_S} (h : isLF S ) : s_O S 0 11 := h.1
theorem lf_r0 {S : m_S} (h : isLF S ) : S.1 0 0 = some 1 := h.2.1
theorem lf_r1 {S : m_S} (h : isLF S ) : S.1 0 1 = some 4 := h.2.2.1
theorem lf_r2 {S : m_S} (h : isLF S ) : S.1 0 2 = some 25 := h.2.2.2.1
theorem lf_r3 {S : m_S} (h : isLF S ) : S.1 0 3 = some 47 := h.2.2.2.2.1
theorem lf_r4 {S : m_S} (h : isLF S ) : S.1 0 4 = some 54 := h.2.2.2.2.2.1
theorem lf_r5 {S : m_S} (h : isLF S ) : S.1 0 5 = some 61 := h.2.2.2.2.2.2.1
theorem lf_r6 {S : m_S} (h : isLF S ) : S.1 0 6 = some 126 := h.2.2.2.2.2.2.2.1
theorem lf_r7 {S : m_S} (h : isLF S ) : S.1 0 7 = some 130 := h.2.2.2.2.2.2.2.2.1
theorem lf_r8 {S : m_S} (h : isLF S ) : S.1 0 8 = some 135 := h.2.2.2.2.2.2.2.2.2.1
theorem lf_r9 {S : m_S} (h : isLF S ) : S.1 0 9 = some 140 := h.2.2.2.2.2.2.2.2.2.2.1
theorem lf_r10 {S : m_S} (h : isLF S ) : S.1 0 10 = some 141 := h.2.2.2.2.2.2.2.2.2.2.2.1
theorem lf_r11 {S : m_S} (h : isLF S ) : S.1 0 11 = some 146 := h.2.2.2.2.2.2.2.2.2.2.2.2.1
theorem lf_r12 {S : m_S} (h : isLF S ) : S.1 0 12 = some 148 := h.2.2.2.2.2.2.2.2.2.2.2.2.2
def isM (S : m_S) : Prop := s_O S 218 12 ∧ S.1 218 1 = some 219 ∧ s_A S 219 2 1460 ∧ S.1 218 6 = some 220 ∧ s_A S 220 0 469 ∧ S.1 218 7 = some 221 ∧ s_A S 221 0 226 ∧ S.1 218 8 = some 222 ∧ s_A S 222 0 135 ∧ S.1 218 9 = some 223 ∧ s_A S 223 1 82 ∧ S.1 218 10 = some 224 ∧ s_A S 224 1 32 ∧ S.1 218 21 = some 225 ∧ s_A S 225 0 496 ∧ S.1 218 22 = some 226 ∧ s_A S 226 0 62 ∧ S.1 218 24 = some 227 ∧ s_A S 227 0 16 ∧ S.1 218 26 = some 228 ∧ s_A S 228 0 1024 ∧ S.1 218 29 = some 229 ∧ s_A S 229 0 12 ∧ S.1 218 30 = some 230 ∧ s_A S 230 0 12 ∧ S.1 218 32 = some 231 ∧ s_A S 231 0 25 ∧ S.1 218 35 = some 232 ∧ s_A S 232 2 40 ∧ S.1 218 39 = some 233 ∧ s_A S 233 0 4 ∧ S.1 218 41 = some 234 ∧ s_A S 234 0 45 ∧ S.1 218 47 = some 235 ∧ s_A S 235 3 45 ∧ S.1 218 48 = some 236 ∧ s_A S 236 0 938 ∧ S.1 218 49 = some 237 ∧ s_A S 237 1 82 ∧ S.1 218 50 = some 238 ∧ s_A S 238 3 2
theorem mo_o {S : m_S} (h : isM S ) : s_O S 218 12 := h.1
theorem mo_r1 {S : m_S} (h : isM S ) : S.1 218 1 = some 219 := h.2.1
theorem mo_a1 {S : m_S} (h : isM S ) : s_A S 219 2 1460 := h.2.2.1
theorem mo_r6 {S : m_S} (h : isM S ) : S.1 218 6 = some 220 := h.2.2.2.1
theorem mo_a6 {S : m_S} (h : isM S ) : s_A S 220 0 469 := h.2.2.2.2.1
theorem mo_r7 {S : m_S} (h : isM S ) : S.1 218 7 = some 221 := h.2.2.2.2.2.1
theorem mo_a7 {S : m_S} (h : isM S ) : s_A S 221 0 226 := h.2.2.2.2.2.2.1
theorem mo_r8 {S : m_S} (h : isM S ) : S.1 218 8 = some 222 := h.2.2.2.2.2.2.2.1
theorem mo_a8 {S : m_S} (h : isM S ) : s_A S 222 0 135 := h.2.2.2.2.2.2.2.2.1
theorem mo_r9 {S : m_S} (h : isM S ) : S.1 218 9 = some 223 := h.2.2.2.2.2.2.2.2.2.1
theorem mo_a9 {S : m_S} (h : isM S ) : s_A S 223 1 82 := h.2.2.2.2.2.2.2.2.2.2.1
theorem mo_r10 {S : m_S} (h : isM S ) : S.1 218 10 = some 224 := h.2.2.2.2.2.2.2.2.2.2.2.1
theorem mo_a10 {S : m_S} (h : isM S ) : s_A S 224 1 32 := h.2.2.2.2.2.2.2.2.2.2.2.2.1
theorem mo_r21 {S : m_S} (h : isM S ) : S.1 218 21 = some 225 := h.2.2.2.2.2.2.2.2.2.2.2.2.2.1
theorem mo_a21 {S : m_S} (h : isM S ) : s_A S 225 0 496 := h.2.2.2.2.2.2.2.2.2.2.2.2.2.2.1
theorem mo_r22 {S : m_S} (h : isM S ) : S.1 218 22 = some 226 := h.2.2.2.2.2.2.2.2.2.2.2.2.2.2.2.1
theorem mo_a22 {S : m_S} (h : isM S ) : s_A S 226 0 62 := h.2.2.2.2.2.2.2.2.2.2.2.2.2.2.2.2.1
theorem mo_r24 {S : m_S} (h : isM S ) : S.1 218 24 = some 227 := h.2.2.2.2.2.2.2.2.2.2.2.2.2.2.2.2.2.1
theorem mo_a24 {S : m_S} (h : isM S ) : s_A S 227 0 16 := h.2.2.2.2.2.2.2.2.2.2.2.2.2.2.2.2.2.2.1
theorem mo_r26 {S : m_S} (h : isM S ) : S.1 218 26 = some 228 := h.2.2.2.2.2.2.2.2.2.2.2.2.2.2.2.2.2.2.2.1
theorem mo_a26 {S : m_S} (h : isM S ) : s_A S 228 0 1024 := h.2.2.2.2.2.2.2.2.2.2.2.2.2.2.2.2.2.2.2.2.1
theorem mo_r29 {S : m_S} (h : isM S ) : S.1 218 29 = some 229 := h.2.2.2.2.2.2.2.2.2.2.2.2.2.2.2.2.2.2.2.2.2.1
theorem mo_a29 {S : m_S} (h : isM S ) : s_A S 229 0 12 := h.2.2.2.2.2.2.2.2.2.2.2.2.2.2.2.2.2.2.2.2.2.2.1
theorem mo_r30 {S : m_S} (h : isM S ) : S.1 218 30 = some 230 := h.2.2.2.2.2.2.2.2.2.2.2.2.2.2.2.2.2.2.2.2.2.2.2.1
theorem mo_a30 {S : m_S} (h : isM S ) : s_A S 230 0 12 := h.2.2.2.2.2.2.2.2.2.2.2.2.2.2.2.2.2.2.2.2.2.2.2.2.1
theorem mo_r32 {S : m_S} (h : isM S ) : S.1 218 32 = some 231 := h.2.2.2.2.2.2.2.2.2.2.2.2.2.2.2.2.2.2.2.2.2.2.2.2.2.1
theorem mo_a32 {S : m_S} (h : isM S ) : s_A S 231 0 25 := h.2.2.2.2.2.2.2.2.2.2.2.2.2.2.2.2.2.2.2.2.2.2.2.2.2.2.1
theorem mo_r35 {S : m_S} (h : isM S ) : S.1 218 35 = some 232 := h.2.2.2.2.2.2.2.2.2.2.2.2.2.2.2.2.2.2.2.2.2.2.2.2.2.2.2.1
theorem mo_a35 {S : m_S} (h : isM S ) : s_A S 232 2 40 := h.2.2.2.2.2.2.2.2.2.2.2.2.2.2.2.2.2.2.2.2.2.2.2.2.2.2.2.2.1
theorem mo_r39 {S : m_S} (h : isM S ) : S.1 218 39 = some 233 := h.2.2.2.2.2.2.2.2.2.2.2.2.2.2.2.2.2.2.2.2.2.2.2.2.2.2.2.2.2.1
theorem mo_a39 {S : m_S} (h : isM S ) : s_A S 233 0 4 := h.2.2.2.2.2.2.2.2.2.2.2.2.2.2.2.2.2.2.2.2.2.2.2.2.2.2.2.2.2.2.1
theorem mo_r41 {S : m_S} (h : isM S ) : S.1 218 41 = some 234 := h.2.2.2.2.2.2.2.2.2.2.2.2.2.2.2.2.2.2.2.2.2.2.2.2.2.2.2.2.2.2.2.1
theorem mo_a41 {S : m_S} (h : isM S ) : s_A S 234 0 45 := h.2.2.2.2.2.2.2.2.2.2.2.2.2.2.2.2.2.2.2.2.2.2.2.2.2.2.2.2.2.2.2.2.1
theorem mo_r47 {S : m_S} (h : isM S ) : S.1 218 47 = some 235 := h.2.2.2.2.2.2.2.2.2.2.2.2.2.2.2.2.2.2.2.2.2.2.2.2.2.2.2.2.2.2.2.2.2.1
theorem mo_a47 {S : m_S} (h : isM S ) : s_A S 235 3 45 := h.2.2.2.2.2.2.2.2.2.2.2.2.2.2.2.2.2.2.2.2.2.2.2.2.2.2.2.2.2.2.2.2.2.2.1
theorem mo_r48 {S : m_S} (h : isM S ) : S.1 218 48 = some 236 := h.2.2.2.2.2.2.2.2.2.2.2.2.2.2.2.2.2.2.2.2.2.2.2.2.2.2.2.2.2.2.2.2.2.2.2.1
theorem mo_a48 {S : m_S} (h : isM S ) : s_A S 236 0 938 := h.2.2.2.2.2.2.2.2.2.2.2.2.2.2.2.2.2.2.2.2.2.2.2.2.2.2.2.2.2.2.2.2.2.2.2.2.1
theorem mo_r49 {S : m_S} (h : isM S ) : S.1 218 49 = some 237 := h.2.2.2.2.2.2.2.2.2.2.2.2.2.2.2.2.2.2.2.2.2.2.2.2.2.2.2.2.2.2.2.2.2.2.2.2.2.1
theorem mo_a49 {S : m_S} (h : isM S ) : s_A S 237 1 82 := h.2.2.2.2.2.2.2.2.2.2.2.2.2.2.2.2.2.2.2.2.2.2.2.2.2.2.2.2.2.2.2.2.2.2.2.2.2.2.1
theorem mo_r50 {S : m_S} (h : isM S ) : S.1 218 50 = some 238 := h.2.2.2.2.2.2.2.2.2.2.2.2.2.2.2.2.2.2.2.2.2.2.2.2.2.2.2.2.2.2.2.2.2.2.2.2.2.2.2.1
theorem mo_a50 {S : m_S} (h : isM S ) : s_A S 238 3 2 := h.2.2.2.2.2.2.2.2.2.2.2.2.2.2.2.2.2.2.2.2.2.2.2.2.2.2.2.2.2.2.2.2.2.2.2.2.2.2.2.2
