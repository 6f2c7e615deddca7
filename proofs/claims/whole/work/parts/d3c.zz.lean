def LI_X5_init : List (Nat × Nat × Int32) := ((1, 7, 3) :: [])
def LJ_X5_init : List (Nat × (Nat → Int64)) := []
set_option maxRecDepth 100000 in
theorem ZI_X5_init (a : Nat) : ZI (kX5_init a) LI_X5_init := (ZI_si (ZI_sr (ZI_nw (ZI_sr (ZI_nw (ZI_sr (ZI_nw (ZI_sr (ZI_nw (ZI_sr (ZI_nw (ZI_sr (ZI_nw (ZI_sr (ZI_nw (ZI_sr (ZI_nw (ZI_sr (ZI_nw (ZI_sr (ZI_nw (ZI_sr (ZI_nw (ZI_sr (ZI_nw (ZI_sr (ZI_nw (ZI_sr (ZI_nw (ZI_sr (ZI_nw (ZI_sr (ZI_nw (ZI_sr (ZI_nw (ZI_sr (ZI_nw (ZI_sr (ZI_nw (ZI_sr (ZI_nw (ZI_nw ZI_0 rfl) rfl)) rfl)) rfl)) rfl)) rfl)) rfl)) rfl)) rfl)) rfl)) rfl)) rfl)) rfl)) rfl)) rfl)) rfl)) rfl)) rfl)) rfl)) rfl)) rfl)))
set_option maxRecDepth 100000 in
theorem ZJ_X5_init (a : Nat) : ZJ (kX5_init a) LJ_X5_init := (ZJ_si (ZJ_sr (ZJ_nw (ZJ_sr (ZJ_nw (ZJ_sr (ZJ_nw (ZJ_sr (ZJ_nw (ZJ_sr (ZJ_nw (ZJ_sr (ZJ_nw (ZJ_sr (ZJ_nw (ZJ_sr (ZJ_nw (ZJ_sr (ZJ_nw (ZJ_sr (ZJ_nw (ZJ_sr (ZJ_nw (ZJ_sr (ZJ_nw (ZJ_sr (ZJ_nw (ZJ_sr (ZJ_nw (ZJ_sr (ZJ_nw (ZJ_sr (ZJ_nw (ZJ_sr (ZJ_nw (ZJ_sr (ZJ_nw (ZJ_sr (ZJ_nw (ZJ_sr (ZJ_nw (ZJ_nw ZJ_0 rfl) rfl)) rfl)) rfl)) rfl)) rfl)) rfl)) rfl)) rfl)) rfl)) rfl)) rfl)) rfl)) rfl)) rfl)) rfl)) rfl)) rfl)) rfl)) rfl)) rfl)))
def LI_X8_init : List (Nat × Nat × Int32) := []
def LJ_X8_init : List (Nat × (Nat → Int64)) := []
set_option maxRecDepth 100000 in
theorem ZI_X8_init (a pl : Nat) : ZI (kX8_init a pl) LI_X8_init := (ZI_sr (ZI_sr (ZI_nw (ZI_sr (ZI_nw (ZI_sr (ZI_nw (ZI_sr (ZI_nw (ZI_sr (ZI_nw (ZI_sr (ZI_nw (ZI_si0 (ZI_si0 (ZI_si0 (ZI_si0 (ZI_si0 (ZI_si0 (ZI_si0 (ZI_nw ZI_0 rfl) rfl) rfl) rfl) rfl) rfl) rfl) rfl) rfl)) rfl)) rfl)) rfl)) rfl)) rfl)))
set_option maxRecDepth 100000 in
theorem ZJ_X8_init (a pl : Nat) : ZJ (kX8_init a pl) LJ_X8_init := (ZJ_sr (ZJ_sr (ZJ_nw (ZJ_sr (ZJ_nw (ZJ_sr (ZJ_nw (ZJ_sr (ZJ_nw (ZJ_sr (ZJ_nw (ZJ_sr (ZJ_nw (ZJ_si (ZJ_si (ZJ_si (ZJ_si (ZJ_si (ZJ_si (ZJ_si (ZJ_nw ZJ_0 rfl)))))))) rfl)) rfl)) rfl)) rfl)) rfl)) rfl)))
def LI_X7_init : List (Nat × Nat × Int32) := []
def LJ_X7_init : List (Nat × (Nat → Int64)) := []
set_option maxRecDepth 100000 in
theorem ZI_X7_init (a : Nat) : ZI (kX7_init a) LI_X7_init := (ZI_sr (ZI_nw (ZI_sr (ZI_nw (ZI_sr (ZI_nw (ZI_sr (ZI_nw (ZI_si0 (ZI_si0 (ZI_si0 (ZI_nw ZI_0 rfl) rfl) rfl) rfl) rfl)) rfl)) rfl)) rfl))
set_option maxRecDepth 100000 in
theorem ZJ_X7_init (a : Nat) : ZJ (kX7_init a) LJ_X7_init := (ZJ_sr (ZJ_nw (ZJ_sr (ZJ_nw (ZJ_sr (ZJ_nw (ZJ_sr (ZJ_nw (ZJ_si (ZJ_si (ZJ_si (ZJ_nw ZJ_0 rfl)))) rfl)) rfl)) rfl)) rfl))
def LI_X0_init : List (Nat × Nat × Int32) := []
def LJ_X0_init : List (Nat × (Nat → Int64)) := []
set_option maxRecDepth 100000 in
theorem ZI_X0_init (a : Nat) : ZI (kX0_init a) LI_X0_init := (ZI_si0 (ZI_si0 (ZI_si0 (ZI_si0 (ZI_si0 (ZI_si0 (ZI_sr (ZI_nw (ZI_sr (ZI_nw (ZI_sr (ZI_nw (ZI_nw ZI_0 rfl) rfl)) rfl)) rfl)) rfl) rfl) rfl) rfl) rfl) rfl)
set_option maxRecDepth 100000 in
theorem ZJ_X0_init (a : Nat) : ZJ (kX0_init a) LJ_X0_init := (ZJ_si (ZJ_si (ZJ_si (ZJ_si (ZJ_si (ZJ_si (ZJ_sr (ZJ_nw (ZJ_sr (ZJ_nw (ZJ_sr (ZJ_nw (ZJ_nw ZJ_0 rfl) rfl)) rfl)) rfl))))))))
def LI_X1_init : List (Nat × Nat × Int32) := []
def LJ_X1_init : List (Nat × (Nat → Int64)) := []
set_option maxRecDepth 100000 in
theorem ZI_X1_init (a : Nat) : ZI (kX1_init a) LI_X1_init := (ZI_sr (ZI_nw (ZI_sr (ZI_nw (ZI_si0 (ZI_sr (ZI_nw (ZI_si0 (ZI_sr (ZI_nw (ZI_nw ZI_0 rfl) rfl)) rfl) rfl)) rfl) rfl)) rfl))
set_option maxRecDepth 100000 in
theorem ZJ_X1_init (a : Nat) : ZJ (kX1_init a) LJ_X1_init := (ZJ_sr (ZJ_nw (ZJ_sr (ZJ_nw (ZJ_si (ZJ_sr (ZJ_nw (ZJ_si (ZJ_sr (ZJ_nw (ZJ_nw ZJ_0 rfl) rfl))) rfl))) rfl)) rfl))
def LI_X2_init : List (Nat × Nat × Int32) := ((0, 2, (-1)) :: [])
def LJ_X2_init : List (Nat × (Nat → Int64)) := []
set_option maxRecDepth 100000 in
theorem ZI_X2_init (a : Nat) : ZI (kX2_init a) LI_X2_init := (ZI_si (ZI_si0 (ZI_sr (ZI_nw (ZI_nw ZI_0 rfl) rfl)) rfl))
set_option maxRecDepth 100000 in
theorem ZJ_X2_init (a : Nat) : ZJ (kX2_init a) LJ_X2_init := (ZJ_si (ZJ_si (ZJ_sr (ZJ_nw (ZJ_nw ZJ_0 rfl) rfl))))
def LI_X9_init : List (Nat × Nat × Int32) := []
def LJ_X9_init : List (Nat × (Nat → Int64)) := []
set_option maxRecDepth 100000 in
theorem ZI_X9_init (a : Nat) : ZI (kX9_init a) LI_X9_init := (ZI_si0 (ZI_sr (ZI_nw (ZI_nw ZI_0 rfl) rfl)) rfl)
set_option maxRecDepth 100000 in
theorem ZJ_X9_init (a : Nat) : ZJ (kX9_init a) LJ_X9_init := (ZJ_si (ZJ_sr (ZJ_nw (ZJ_nw ZJ_0 rfl) rfl)))
def LI_X6_init : List (Nat × Nat × Int32) := ([] ++ shI 1 LI_X5_init)
def LJ_X6_init : List (Nat × (Nat → Int64)) := ([] ++ shI 1 LJ_X5_init)
set_option maxRecDepth 100000 in
theorem ZI_X6_init (a : Nat) : ZI (kX6_init a) LI_X6_init := (ZI_si0 (ZI_si0 (ZI_sr (ZI_ex (ZI_nw ZI_0 rfl) (ZI_X5_init (a + 1)) rfl)) rfl) rfl)
set_option maxRecDepth 100000 in
theorem ZJ_X6_init (a : Nat) : ZJ (kX6_init a) LJ_X6_init := (ZJ_si (ZJ_si (ZJ_sr (ZJ_ex (ZJ_nw ZJ_0 rfl) (ZJ_X5_init (a + 1)) rfl))))
def LI_X3_init : List (Nat × Nat × Int32) := ((((((((([] ++ shI 2 LI_X8_init) ++ shI 9 LI_X8_init) ++ shI 16 LI_X8_init) ++ shI 23 LI_X8_init) ++ shI 30 LI_X8_init) ++ shI 37 LI_X8_init) ++ shI 44 LI_X8_init) ++ shI 51 LI_X8_init) ++ shI 58 LI_X8_init)
def LJ_X3_init : List (Nat × (Nat → Int64)) := ((((((((([] ++ shI 2 LJ_X8_init) ++ shI 9 LJ_X8_init) ++ shI 16 LJ_X8_init) ++ shI 23 LJ_X8_init) ++ shI 30 LJ_X8_init) ++ shI 37 LJ_X8_init) ++ shI 44 LJ_X8_init) ++ shI 51 LJ_X8_init) ++ shI 58 LJ_X8_init)
set_option maxRecDepth 100000 in
theorem ZI_X3_init (a pl : Nat) : ZI (kX3_init a pl) LI_X3_init := (ZI_sr (ZI_ex (ZI_sr (ZI_ex (ZI_sr (ZI_ex (ZI_sr (ZI_ex (ZI_sr (ZI_ex (ZI_sr (ZI_ex (ZI_sr (ZI_ex (ZI_sr (ZI_ex (ZI_sr (ZI_ex (ZI_si0 (ZI_sr (ZI_nw (ZI_nw ZI_0 rfl) rfl)) rfl) (ZI_X8_init (a + 2) (pl)) rfl)) (ZI_X8_init (a + 9) (pl)) rfl)) (ZI_X8_init (a + 16) (pl)) rfl)) (ZI_X8_init (a + 23) (pl)) rfl)) (ZI_X8_init (a + 30) (pl)) rfl)) (ZI_X8_init (a + 37) (pl)) rfl)) (ZI_X8_init (a + 44) (pl)) rfl)) (ZI_X8_init (a + 51) (pl)) rfl)) (ZI_X8_init (a + 58) (pl)) rfl))
set_option maxRecDepth 100000 in
theorem ZJ_X3_init (a pl : Nat) : ZJ (kX3_init a pl) LJ_X3_init := (ZJ_sr (ZJ_ex (ZJ_sr (ZJ_ex (ZJ_sr (ZJ_ex (ZJ_sr (ZJ_ex (ZJ_sr (ZJ_ex (ZJ_sr (ZJ_ex (ZJ_sr (ZJ_ex (ZJ_sr (ZJ_ex (ZJ_sr (ZJ_ex (ZJ_si (ZJ_sr (ZJ_nw (ZJ_nw ZJ_0 rfl) rfl))) (ZJ_X8_init (a + 2) (pl)) rfl)) (ZJ_X8_init (a + 9) (pl)) rfl)) (ZJ_X8_init (a + 16) (pl)) rfl)) (ZJ_X8_init (a + 23) (pl)) rfl)) (ZJ_X8_init (a + 30) (pl)) rfl)) (ZJ_X8_init (a + 37) (pl)) rfl)) (ZJ_X8_init (a + 44) (pl)) rfl)) (ZJ_X8_init (a + 51) (pl)) rfl)) (ZJ_X8_init (a + 58) (pl)) rfl))
def LI_X4_init : List (Nat × Nat × Int32) := ((([] ++ shI 1 LI_X5_init) ++ shI 22 LI_X7_init) ++ shI 27 LI_X8_init)
def LJ_X4_init : List (Nat × (Nat → Int64)) := ((([] ++ shI 1 LJ_X5_init) ++ shI 22 LJ_X7_init) ++ shI 27 LJ_X8_init)
set_option maxRecDepth 100000 in
theorem ZI_X4_init (a pl : Nat) : ZI (kX4_init a pl) LI_X4_init := (ZI_sr (ZI_ex (ZI_si0 (ZI_sr (ZI_ex (ZI_sr (ZI_ex (ZI_nw ZI_0 rfl) (ZI_X5_init (a + 1)) rfl)) (ZI_X7_init (a + 22)) rfl)) rfl) (ZI_X8_init (a + 27) (pl)) rfl))
set_option maxRecDepth 100000 in
theorem ZJ_X4_init (a pl : Nat) : ZJ (kX4_init a pl) LJ_X4_init := (ZJ_sr (ZJ_ex (ZJ_si (ZJ_sr (ZJ_ex (ZJ_sr (ZJ_ex (ZJ_nw ZJ_0 rfl) (ZJ_X5_init (a + 1)) rfl)) (ZJ_X7_init (a + 22)) rfl))) (ZJ_X8_init (a + 27) (pl)) rfl))
def LI_X10_init : List (Nat × Nat × Int32) := ((0, 8, (-1)) :: [])
def LJ_X10_init : List (Nat × (Nat → Int64)) := ((2, cwA 179) :: [])
set_option maxRecDepth 100000 in
theorem ZI_X10_init (a : Nat) : ZI (kX10_init a) LI_X10_init := (ZI_sr (ZI_cw (ZI_si0 (ZI_si0 (ZI_si (ZI_sj (ZI_si0 (ZI_si0 (ZI_si0 (ZI_si0 (ZI_si0 (ZI_si0 (ZI_sr (ZI_nw (ZI_nw ZI_0 rfl) rfl)) rfl) rfl) rfl) rfl) rfl) rfl))) rfl) rfl) rfl))
set_option maxRecDepth 100000 in
theorem ZJ_X10_init (a : Nat) : ZJ (kX10_init a) LJ_X10_init := (ZJ_sr (ZJ_cw (ZJ_si (ZJ_si (ZJ_si (ZJ_sj0 (ZJ_si (ZJ_si (ZJ_si (ZJ_si (ZJ_si (ZJ_si (ZJ_sr (ZJ_nw (ZJ_nw ZJ_0 rfl) rfl)))))))) rfl)))) rfl rfl))
def LI_X11_init : List (Nat × Nat × Int32) := ((((0, 14, (-1)) :: (((((((((((([] ++ shI 1 LI_X10_init) ++ shI 4 LI_X5_init) ++ shI 25 LI_X6_init) ++ shI 47 LI_X8_init) ++ shI 54 LI_X8_init) ++ shI 61 LI_X3_init) ++ shI 126 LI_X0_init) ++ shI 130 LI_X7_init) ++ shI 135 LI_X7_init) ++ shI 141 LI_X1_init) ++ shI 146 LI_X2_init) ++ shI 148 LI_X9_init)) ++ shI 150 LI_X4_init) ++ shI 184 LI_X4_init)
def LJ_X11_init : List (Nat × (Nat → Int64)) := (((((((((((((([] ++ shI 1 LJ_X10_init) ++ shI 4 LJ_X5_init) ++ shI 25 LJ_X6_init) ++ shI 47 LJ_X8_init) ++ shI 54 LJ_X8_init) ++ shI 61 LJ_X3_init) ++ shI 126 LJ_X0_init) ++ shI 130 LJ_X7_init) ++ shI 135 LJ_X7_init) ++ shI 141 LJ_X1_init) ++ shI 146 LJ_X2_init) ++ shI 148 LJ_X9_init) ++ shI 150 LJ_X4_init) ++ shI 184 LJ_X4_init)
set_option maxRecDepth 100000 in
theorem ZI_X11_init (a : Nat) : ZI (kX11_init a) LI_X11_init := (ZI_sr (ZI_ex (ZI_sr (ZI_ex (ZI_si (ZI_si0 (ZI_sr (ZI_ex (ZI_sr (ZI_ex (ZI_sr (ZI_ex (ZI_sr (ZI_nw (ZI_sr (ZI_ex (ZI_sr (ZI_ex (ZI_sr (ZI_ex (ZI_sr (ZI_ex (ZI_sr (ZI_ex (ZI_sr (ZI_ex (ZI_sr (ZI_ex (ZI_sr (ZI_ex (ZI_sr (ZI_ex (ZI_nw ZI_0 rfl) (ZI_X10_init (a + 1)) rfl)) (ZI_X5_init (a + 4)) rfl)) (ZI_X6_init (a + 25)) rfl)) (ZI_X8_init (a + 47) (a + 4)) rfl)) (ZI_X8_init (a + 54) (a + 4)) rfl)) (ZI_X3_init (a + 61) (a + 4)) rfl)) (ZI_X0_init (a + 126)) rfl)) (ZI_X7_init (a + 130)) rfl)) (ZI_X7_init (a + 135)) rfl)) rfl)) (ZI_X1_init (a + 141)) rfl)) (ZI_X2_init (a + 146)) rfl)) (ZI_X9_init (a + 148)) rfl)) rfl)) (ZI_X4_init (a + 150) (a + 4)) rfl)) (ZI_X4_init (a + 184) (a + 4)) rfl))
set_option maxRecDepth 100000 in
theorem ZJ_X11_init (a : Nat) : ZJ (kX11_init a) LJ_X11_init := (ZJ_sr (ZJ_ex (ZJ_sr (ZJ_ex (ZJ_si (ZJ_si (ZJ_sr (ZJ_ex (ZJ_sr (ZJ_ex (ZJ_sr (ZJ_ex (ZJ_sr (ZJ_nw (ZJ_sr (ZJ_ex (ZJ_sr (ZJ_ex (ZJ_sr (ZJ_ex (ZJ_sr (ZJ_ex (ZJ_sr (ZJ_ex (ZJ_sr (ZJ_ex (ZJ_sr (ZJ_ex (ZJ_sr (ZJ_ex (ZJ_sr (ZJ_ex (ZJ_nw ZJ_0 rfl) (ZJ_X10_init (a + 1)) rfl)) (ZJ_X5_init (a + 4)) rfl)) (ZJ_X6_init (a + 25)) rfl)) (ZJ_X8_init (a + 47) (a + 4)) rfl)) (ZJ_X8_init (a + 54) (a + 4)) rfl)) (ZJ_X3_init (a + 61) (a + 4)) rfl)) (ZJ_X0_init (a + 126)) rfl)) (ZJ_X7_init (a + 130)) rfl)) (ZJ_X7_init (a + 135)) rfl)) rfl)) (ZJ_X1_init (a + 141)) rfl)) (ZJ_X2_init (a + 146)) rfl)) (ZJ_X9_init (a + 148)) rfl)))) (ZJ_X4_init (a + 150) (a + 4)) rfl)) (ZJ_X4_init (a + 184) (a + 4)) rfl))
def LI_X12_init : List (Nat × Nat × Int32) := ((0, 33, (-1)) :: ((0, 31, (-1)) :: ((0, 25, (-1)) :: [])))
def LJ_X12_init : List (Nat × (Nat → Int64)) := ((6, updJ (updJ (updJ (updJ (updJ (updJ (updJ (updJ (updJ (updJ (updJ (updJ (updJ (updJ (updJ (updJ (updJ (updJ (updJ (updJ (updJ (updJ (updJ (updJ (updJ (updJ (updJ (updJ (updJ (updJ (updJ (updJ (fun _ => 0) 0 32481100150959982) 1 123623812527219) 2 500135191403) 3 126896544047468) 4 491496240229) 5 1870030194) 6 1819239275) 7 500135192942) 8 1752132708) 9 121424940196204) 10 32199706527560549) 11 1685026670) 12 30064) 13 7562612) 14 1650549611) 15 499968536439) 16 1717660012) 17 427020345714) 18 1718971500) 19 1835363940) 20 1953063787) 21 28530) 22 6385252) 23 7237492) 24 7304564) 25 27991785567970660) 26 33602627781095015) 27 26990) 28 504447463015) 29 499984329587) 30 131260264768868) 31 121450625394034) :: [])
set_option maxRecDepth 100000 in
theorem ZI_X12_init (a : Nat) : ZI (kX12_init a) LI_X12_init := (ZI_sj (ZI_sj (ZI_sj (ZI_sj (ZI_sj (ZI_sj (ZI_sj (ZI_sj (ZI_sj (ZI_sj (ZI_sj (ZI_sj (ZI_sj (ZI_sj (ZI_sj (ZI_sj (ZI_sj (ZI_sj (ZI_sj (ZI_sj (ZI_sj (ZI_sj (ZI_sj (ZI_sj (ZI_sj (ZI_sj (ZI_sj (ZI_sj (ZI_sj (ZI_sj (ZI_sj (ZI_sj (ZI_sr (ZI_nw (ZI_sr (ZI_nw (ZI_sr (ZI_nw (ZI_sr (ZI_nw (ZI_sr (ZI_nw (ZI_sr (ZI_nw (ZI_sr (ZI_nw (ZI_si (ZI_sr (ZI_nw (ZI_si (ZI_sr (ZI_nw (ZI_sr (ZI_nw (ZI_sr (ZI_nw (ZI_si (ZI_sr (ZI_nw (ZI_sr (ZI_nw (ZI_sr (ZI_nw (ZI_sr (ZI_nw (ZI_sr (ZI_nw (ZI_sr (ZI_nw (ZI_sr (ZI_nw (ZI_sr (ZI_nw (ZI_sr (ZI_nw (ZI_nw ZI_0 rfl) rfl)) rfl)) rfl)) rfl)) rfl)) rfl)) rfl)) rfl)) rfl))) rfl)) rfl)) rfl))) rfl))) rfl)) rfl)) rfl)) rfl)) rfl)) rfl)) rfl))))))))))))))))))))))))))))))))))
set_option maxRecDepth 100000 in
theorem ZJ_X12_init (a : Nat) : ZJ (kX12_init a) LJ_X12_init := (ZJ_sj (ZJ_sj (ZJ_sj (ZJ_sj (ZJ_sj (ZJ_sj (ZJ_sj (ZJ_sj (ZJ_sj (ZJ_sj (ZJ_sj (ZJ_sj (ZJ_sj (ZJ_sj (ZJ_sj (ZJ_sj (ZJ_sj (ZJ_sj (ZJ_sj (ZJ_sj (ZJ_sj (ZJ_sj (ZJ_sj (ZJ_sj (ZJ_sj (ZJ_sj (ZJ_sj (ZJ_sj (ZJ_sj (ZJ_sj (ZJ_sj (ZJ_sj (ZJ_st 6 (ZJ_sr (ZJ_nw (ZJ_sr (ZJ_nw (ZJ_sr (ZJ_nw (ZJ_sr (ZJ_nw (ZJ_sr (ZJ_nw (ZJ_sr (ZJ_nw (ZJ_sr (ZJ_nw (ZJ_si (ZJ_sr (ZJ_nw (ZJ_si (ZJ_sr (ZJ_nw (ZJ_sr (ZJ_nw (ZJ_sr (ZJ_nw (ZJ_si (ZJ_sr (ZJ_nw (ZJ_sr (ZJ_nw (ZJ_sr (ZJ_nw (ZJ_sr (ZJ_nw (ZJ_sr (ZJ_nw (ZJ_sr (ZJ_nw (ZJ_sr (ZJ_nw (ZJ_sr (ZJ_nw (ZJ_sr (ZJ_nw (ZJ_nw ZJ_0 rfl) rfl)) rfl)) rfl)) rfl)) rfl)) rfl)) rfl)) rfl)) rfl))) rfl)) rfl)) rfl))) rfl))) rfl)) rfl)) rfl)) rfl)) rfl)) rfl)) rfl)) rfl)))))))))))))))))))))))))))))))))
