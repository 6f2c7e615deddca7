/-! pure functions over what the cells hold, laid by program (auto2.py); MF: the machine does what the function says, where it answers -/
/-- ints, longs by cell and place; which State stands at each place of the History's row (cell 62) -/
abbrev X_ : Type := (Nat → Nat → Int32) × (Nat → Nat → Int64) × (Nat → Nat)
abbrev RM (α : Type) : Type := X_ → Option (α × X_)
def m_q (q : m_S) (g : Nat → Nat) : m_S := (fun a k => if a = 62 then some (63 + 7 * g k) else q.1 a k, q.2)
theorem m_q_ne {q : m_S} {g : Nat → Nat} {a k : Nat} (h : ¬ a = 62) : (m_q q g).1 a k = q.1 a k := if_neg h
theorem m_q_62 (q : m_S) (g : Nat → Nat) (k : Nat) : (m_q q g).1 62 k = some (63 + 7 * g k) := by
  show (if (62 : Nat) = 62 then some (63 + 7 * g k) else q.1 62 k) = _
  rw [if_pos rfl]
def m_w (q : m_S) (X : X_) : m_H := (X.1, X.2.1, m_q q X.2.2)
def sI (X : X_) (a k : Nat) (v : Int32) : X_ := (fun a' k' => if a' = a ∧ k' = k then v else X.1 a' k', X.2)
def sJ (X : X_) (a k : Nat) (v : Int64) : X_ := (X.1, fun a' k' => if a' = a ∧ k' = k then v else X.2.1 a' k', X.2.2)
def sG (X : X_) (k g : Nat) : X_ := (X.1, X.2.1, fun k' => if k' = k then g else X.2.2 k')
def FU : Nat := 5000
theorem FU_eq : FU = 5000 := rfl
def gI {α : Type} (a k : Nat) (F : Int32 → RM α) : RM α := fun X => F (X.1 a k) X
def gJ {α : Type} (a k : Nat) (F : Int64 → RM α) : RM α := fun X => F (X.2.1 a k) X
def pI {α : Type} (a k : Nat) (v : Int32) (F : RM α) : RM α := fun X => F (sI X a k v)
def pJ {α : Type} (a k : Nat) (v : Int64) (F : RM α) : RM α := fun X => F (sJ X a k v)
def pZ {α : Type} (a k : Nat) (v : Int32) (F : RM α) : RM α := fun X => if v = 0 ∨ v = 1 then F (sI X a k v) else none
def rA {α : Type} (a n : Nat) (i : Int32) (F : Int32 → RM α) : RM α := fun X => if i < 0 ∨ n ≤ i.toNatClampNeg then none else F (X.1 a i.toNatClampNeg) X
def rJ {α : Type} (a n : Nat) (i : Int32) (F : Int64 → RM α) : RM α := fun X => if i < 0 ∨ n ≤ i.toNatClampNeg then none else F (X.2.1 a i.toNatClampNeg) X
def wA {α : Type} (a n : Nat) (i v : Int32) (F : RM α) : RM α := fun X => if i < 0 ∨ n ≤ i.toNatClampNeg then none else F (sI X a i.toNatClampNeg v)
def wZ {α : Type} (a n : Nat) (i v : Int32) (F : RM α) : RM α := fun X => if i < 0 ∨ n ≤ i.toNatClampNeg then none else if v = 0 ∨ v = 1 then F (sI X a i.toNatClampNeg v) else none
def wJ {α : Type} (a n : Nat) (i : Int32) (v : Int64) (F : RM α) : RM α := fun X => if i < 0 ∨ n ≤ i.toNatClampNeg then none else F (sJ X a i.toNatClampNeg v)
def it {α : Type} (c : Prop) [Decidable c] (A B : RM α) : RM α := fun X => if c then A X else B X
def ca {α β : Type} (f : RM β) (F : β → RM α) : RM α := fun X => match f X with
  | none => none
  | some p => F p.1 p.2
def re {α : Type} (v : α) : RM α := fun X => some (v, X)
def rz (v : Int32) : RM Int32 := fun X => if v = 0 ∨ v = 1 then some (v, X) else none
def nz {α : Type} (y : Int32) (F : RM α) : RM α := fun X => if y = 0 then none else F X
def rI (v : Int32) : Option Value := some (.int v)
def rL (v : Int64) : Option Value := some (.long v)
def rU (_ : Unit) : Option Value := none
def MF {α : Type} (ρ : α → Option Value) (K : m_K) (pc : Nat) (lv : List (Nat × Value)) (st : List Value) (q : m_S) (F : RM α) : Prop :=
  ∀ (X : X_) (r : α) (X' : X_), F X = some (r, X') → MW K pc (0, 0) lv st (m_w q X) (fun r0 h0 => r0 = ρ r ∧ h0 = m_w q X')
def AC {α : Type} (ρ : α → Option Value) (y : MethodName) (cc : ByteArray) (nL : Nat) (ret : Option FieldType) (d : Nat) (args : List Value) (q : m_S) (f : RM α) : Prop :=
  ∀ (X : X_) (r : α) (X' : X_), f X = some (r, X') → MC y cc nL ret d 0 0 args (m_w q X) (fun r0 h0 => r0 = ρ r ∧ h0 = m_w q X')
theorem ac_of {α : Type} {ρ : α → Option Value} {y : MethodName} {cc : ByteArray} {nL : Nat} {ret : Option FieldType} {d : Nat} {args : List Value} {q : m_S} {f : RM α} (hy : plainName y.cls = true) (hn : (lg_sl args).length ≤ nL)
    (k : MF ρ (y.cls, cc, nL, ret, y.name, d, 0, 0) 0 (lv_args 0 args) [] q f) : AC ρ y cc nL ret d args q f := fun X r X' e => mc_of hy hn (k X r X' e)
section MFR
variable {α : Type} {ρ : α → Option Value} {K : m_K} {pc : Nat} {lv : List (Nat × Value)} {rest : List Value} {q : m_S} {F G : RM α}
theorem mf_sub {lv' : List (Nat × Value)} {st : List Value} (ks : List Nat) (he : lv_pick lv ks = lv') (k : MF ρ K pc lv' st q F) : MF ρ K pc lv st q F := fun X r X' e => mw_sub ks he (k X r X' e)
theorem mf_iconst {n : Int} {v : Int32} (hd : decode K.2.1 pc = .ok (.iconst n, 1)) (hv : Int32.ofInt n = v) (k : MF ρ K (pc + 1) lv (.int v :: rest) q F) : MF ρ K pc lv (rest) q F := fun X r X' e => mw_iconst hd hv (k X r X' e)
theorem mf_bipush {n : Int} {v : Int32} (hd : decode K.2.1 pc = .ok (.bipush n, 2)) (hv : (Int8.ofInt n).toInt32 = v) (k : MF ρ K (pc + 2) lv (.int v :: rest) q F) : MF ρ K pc lv (rest) q F := fun X r X' e => mw_bipush hd hv (k X r X' e)
theorem mf_sipush {n : Int} {v : Int32} (hd : decode K.2.1 pc = .ok (.sipush n, 3)) (hv : (Int16.ofInt n).toInt32 = v) (k : MF ρ K (pc + 3) lv (.int v :: rest) q F) : MF ρ K pc lv (rest) q F := fun X r X' e => mw_sipush hd hv (k X r X' e)
theorem mf_lconst {n : Fin 2} {v : Int64} (hd : decode K.2.1 pc = .ok (.lconst n, 1)) (hv : Int64.ofNat (n : Nat) = v) (k : MF ρ K (pc + 1) lv (.long v :: rest) q F) : MF ρ K pc lv (rest) q F := fun X r X' e => mw_lconst hd hv (k X r X' e)
theorem mf_ldc {ix : Nat} {v : Int32} (hd : decode K.2.1 pc = .ok (.ldc ix, 2)) (hw : Cond.constant K.1 ix v ∈ m_tb) (k : MF ρ K (pc + 2) lv (.int v :: rest) q F) : MF ρ K pc lv (rest) q F := fun X r X' e => mw_ldc hd hw (k X r X' e)
theorem mf_ldc2 {ix : Nat} {v : Int64} (hd : decode K.2.1 pc = .ok (.ldc2_w ix, 3)) (hw : Cond.constantLong K.1 ix v ∈ m_tb) (k : MF ρ K (pc + 3) lv (.long v :: rest) q F) : MF ρ K pc lv (rest) q F := fun X r X' e => mw_ldc2 hd hw (k X r X' e)
theorem mf_iload (j : Nat) {i : Nat} {x : Int32} (hd : decode K.2.1 pc = .ok (.iload i, 2)) (hj : lv[j]? = some (i, .int x)) (k : MF ρ K (pc + 2) lv (.int x :: rest) q F) : MF ρ K pc lv (rest) q F := fun X r X' e => mw_iload j hd hj (k X r X' e)
theorem mf_iload_n (j : Nat) {i : Fin 4} {x : Int32} (hd : decode K.2.1 pc = .ok (.iload_n i, 1)) (hj : lv[j]? = some ((i : Nat), .int x)) (k : MF ρ K (pc + 1) lv (.int x :: rest) q F) : MF ρ K pc lv (rest) q F := fun X r X' e => mw_iload_n j hd hj (k X r X' e)
theorem mf_lload (j : Nat) {i : Nat} {x : Int64} (hd : decode K.2.1 pc = .ok (.lload i, 2)) (hj : lv[j]? = some (i, .long x)) (k : MF ρ K (pc + 2) lv (.long x :: rest) q F) : MF ρ K pc lv (rest) q F := fun X r X' e => mw_lload j hd hj (k X r X' e)
theorem mf_lload_n (j : Nat) {i : Fin 4} {x : Int64} (hd : decode K.2.1 pc = .ok (.lload_n i, 1)) (hj : lv[j]? = some ((i : Nat), .long x)) (k : MF ρ K (pc + 1) lv (.long x :: rest) q F) : MF ρ K pc lv (rest) q F := fun X r X' e => mw_lload_n j hd hj (k X r X' e)
theorem mf_aload (j : Nat) {i a : Nat} (hd : decode K.2.1 pc = .ok (.aload i, 2)) (hj : lv[j]? = some (i, .ref a)) (k : MF ρ K (pc + 2) lv (.ref a :: rest) q F) : MF ρ K pc lv (rest) q F := fun X r X' e => mw_aload j hd hj (k X r X' e)
theorem mf_aload_n (j : Nat) {i : Fin 4} {a : Nat} (hd : decode K.2.1 pc = .ok (.aload_n i, 1)) (hj : lv[j]? = some ((i : Nat), .ref a)) (k : MF ρ K (pc + 1) lv (.ref a :: rest) q F) : MF ρ K pc lv (rest) q F := fun X r X' e => mw_aload_n j hd hj (k X r X' e)
theorem mf_iadd {x y : Int32} (hd : decode K.2.1 pc = .ok (.iadd, 1)) (k : MF ρ K (pc + 1) lv (.int (x + y) :: rest) q F) : MF ρ K pc lv (.int y :: .int x :: rest) q F := fun X r X' e => mw_iadd hd (k X r X' e)
theorem mf_isub {x y : Int32} (hd : decode K.2.1 pc = .ok (.isub, 1)) (k : MF ρ K (pc + 1) lv (.int (x - y) :: rest) q F) : MF ρ K pc lv (.int y :: .int x :: rest) q F := fun X r X' e => mw_isub hd (k X r X' e)
theorem mf_imul {x y : Int32} (hd : decode K.2.1 pc = .ok (.imul, 1)) (k : MF ρ K (pc + 1) lv (.int (x * y) :: rest) q F) : MF ρ K pc lv (.int y :: .int x :: rest) q F := fun X r X' e => mw_imul hd (k X r X' e)
theorem mf_iand {x y : Int32} (hd : decode K.2.1 pc = .ok (.iand, 1)) (k : MF ρ K (pc + 1) lv (.int (x &&& y) :: rest) q F) : MF ρ K pc lv (.int y :: .int x :: rest) q F := fun X r X' e => mw_iand hd (k X r X' e)
theorem mf_ior {x y : Int32} (hd : decode K.2.1 pc = .ok (.ior, 1)) (k : MF ρ K (pc + 1) lv (.int (x ||| y) :: rest) q F) : MF ρ K pc lv (.int y :: .int x :: rest) q F := fun X r X' e => mw_ior hd (k X r X' e)
theorem mf_ixor {x y : Int32} (hd : decode K.2.1 pc = .ok (.ixor, 1)) (k : MF ρ K (pc + 1) lv (.int (x ^^^ y) :: rest) q F) : MF ρ K pc lv (.int y :: .int x :: rest) q F := fun X r X' e => mw_ixor hd (k X r X' e)
theorem mf_ishl {x y : Int32} (hd : decode K.2.1 pc = .ok (.ishl, 1)) (k : MF ρ K (pc + 1) lv (.int (x <<< (y &&& 31)) :: rest) q F) : MF ρ K pc lv (.int y :: .int x :: rest) q F := fun X r X' e => mw_ishl hd (k X r X' e)
theorem mf_ishr {x y : Int32} (hd : decode K.2.1 pc = .ok (.ishr, 1)) (k : MF ρ K (pc + 1) lv (.int (x >>> (y &&& 31)) :: rest) q F) : MF ρ K pc lv (.int y :: .int x :: rest) q F := fun X r X' e => mw_ishr hd (k X r X' e)
theorem mf_iushr {x y : Int32} (hd : decode K.2.1 pc = .ok (.iushr, 1)) (k : MF ρ K (pc + 1) lv (.int ((x.toUInt32 >>> (y.toUInt32 &&& Int32.toUInt32 31)).toInt32) :: rest) q F) : MF ρ K pc lv (.int y :: .int x :: rest) q F := fun X r X' e => mw_iushr hd (k X r X' e)
theorem mf_ladd {x y : Int64} (hd : decode K.2.1 pc = .ok (.ladd, 1)) (k : MF ρ K (pc + 1) lv (.long (x + y) :: rest) q F) : MF ρ K pc lv (.long y :: .long x :: rest) q F := fun X r X' e => mw_ladd hd (k X r X' e)
theorem mf_lmul {x y : Int64} (hd : decode K.2.1 pc = .ok (.lmul, 1)) (k : MF ρ K (pc + 1) lv (.long (x * y) :: rest) q F) : MF ρ K pc lv (.long y :: .long x :: rest) q F := fun X r X' e => mw_lmul hd (k X r X' e)
theorem mf_land {x y : Int64} (hd : decode K.2.1 pc = .ok (.land, 1)) (k : MF ρ K (pc + 1) lv (.long (x &&& y) :: rest) q F) : MF ρ K pc lv (.long y :: .long x :: rest) q F := fun X r X' e => mw_land hd (k X r X' e)
theorem mf_lor {x y : Int64} (hd : decode K.2.1 pc = .ok (.lor, 1)) (k : MF ρ K (pc + 1) lv (.long (x ||| y) :: rest) q F) : MF ρ K pc lv (.long y :: .long x :: rest) q F := fun X r X' e => mw_lor hd (k X r X' e)
theorem mf_lshr {x : Int64} {y : Int32} (hd : decode K.2.1 pc = .ok (.lshr, 1)) (k : MF ρ K (pc + 1) lv (.long (x >>> (y.toInt64 &&& 63)) :: rest) q F) : MF ρ K pc lv (.int y :: .long x :: rest) q F := fun X r X' e => mw_lshr hd (k X r X' e)
theorem mf_lshl {x : Int64} {y : Int32} (hd : decode K.2.1 pc = .ok (.lshl, 1)) (k : MF ρ K (pc + 1) lv (.long (x <<< (y.toInt64 &&& 63)) :: rest) q F) : MF ρ K pc lv (.int y :: .long x :: rest) q F := fun X r X' e => mw_lshl hd (k X r X' e)
theorem mf_ineg {x : Int32} (hd : decode K.2.1 pc = .ok (.ineg, 1)) (k : MF ρ K (pc + 1) lv (.int (-x) :: rest) q F) : MF ρ K pc lv (.int x :: rest) q F := fun X r X' e => mw_ineg hd (k X r X' e)
theorem mf_i2l {x : Int32} (hd : decode K.2.1 pc = .ok (.i2l, 1)) (k : MF ρ K (pc + 1) lv (.long x.toInt64 :: rest) q F) : MF ρ K pc lv (.int x :: rest) q F := fun X r X' e => mw_i2l hd (k X r X' e)
theorem mf_l2i {x : Int64} (hd : decode K.2.1 pc = .ok (.l2i, 1)) (k : MF ρ K (pc + 1) lv (.int x.toInt32 :: rest) q F) : MF ρ K pc lv (.long x :: rest) q F := fun X r X' e => mw_l2i hd (k X r X' e)
theorem mf_i2b {x : Int32} (hd : decode K.2.1 pc = .ok (.i2b, 1)) (k : MF ρ K (pc + 1) lv (.int x.toInt8.toInt32 :: rest) q F) : MF ρ K pc lv (.int x :: rest) q F := fun X r X' e => mw_i2b hd (k X r X' e)
theorem mf_dup {v : Value} (hd : decode K.2.1 pc = .ok (.dup, 1)) (hv : v.category = 1) (k : MF ρ K (pc + 1) lv (v :: v :: rest) q F) : MF ρ K pc lv (v :: rest) q F := fun X r X' e => mw_dup hd hv (k X r X' e)
theorem mf_dup2 {v u : Value} (hd : decode K.2.1 pc = .ok (.dup2, 1)) (hv : v.category = 1) (hu : u.category = 1) (k : MF ρ K (pc + 1) lv (v :: u :: v :: u :: rest) q F) : MF ρ K pc lv (v :: u :: rest) q F := fun X r X' e => mw_dup2 hd hv hu (k X r X' e)
theorem mf_pop {v : Value} (hd : decode K.2.1 pc = .ok (.pop, 1)) (hv : v.category = 1) (k : MF ρ K (pc + 1) lv (rest) q F) : MF ρ K pc lv (v :: rest) q F := fun X r X' e => mw_pop hd hv (k X r X' e)
theorem mf_goto {off : Int} {tgt : Nat} (hd : decode K.2.1 pc = .ok (.goto off, 3)) (ht : (pc : Int) + off = (tgt : Int)) (k : MF ρ K tgt lv rest q F) : MF ρ K pc lv rest q F := fun X r X' e => mw_goto hd ht (k X r X' e)
theorem mf_istore {i : Nat} {x : Int32} (lv' : List (Nat × Value)) (hd : decode K.2.1 pc = .ok (.istore i, 2)) (hn : i < K.2.2.1) (he : (i, .int x) :: lv.filter (fun q => !(q.1 == i) && !(q.1 + 1 == i && q.2.category == 2)) = lv') (k : MF ρ K (pc + 2) lv' rest q F) : MF ρ K pc lv (.int x :: rest) q F := fun X r X' e => mw_istore lv' hd hn he (k X r X' e)
theorem mf_istore_n {i : Fin 4} {x : Int32} (lv' : List (Nat × Value)) (hd : decode K.2.1 pc = .ok (.istore_n i, 1)) (hn : (i : Nat) < K.2.2.1) (he : ((i : Nat), .int x) :: lv.filter (fun q => !(q.1 == (i : Nat)) && !(q.1 + 1 == (i : Nat) && q.2.category == 2)) = lv') (k : MF ρ K (pc + 1) lv' rest q F) : MF ρ K pc lv (.int x :: rest) q F := fun X r X' e => mw_istore_n lv' hd hn he (k X r X' e)
theorem mf_lstore {i : Nat} {x : Int64} (lv' : List (Nat × Value)) (hd : decode K.2.1 pc = .ok (.lstore i, 2)) (hn : i + 1 < K.2.2.1) (he : (i, .long x) :: lv.filter (fun q => !(q.1 == i) && (!(q.1 == i + 1) && !(q.1 + 1 == i && q.2.category == 2))) = lv') (k : MF ρ K (pc + 2) lv' rest q F) : MF ρ K pc lv (.long x :: rest) q F := fun X r X' e => mw_lstore lv' hd hn he (k X r X' e)
theorem mf_lstore_n {i : Fin 4} {x : Int64} (lv' : List (Nat × Value)) (hd : decode K.2.1 pc = .ok (.lstore_n i, 1)) (hn : (i : Nat) + 1 < K.2.2.1) (he : ((i : Nat), .long x) :: lv.filter (fun q => !(q.1 == (i : Nat)) && (!(q.1 == (i : Nat) + 1) && !(q.1 + 1 == (i : Nat) && q.2.category == 2))) = lv') (k : MF ρ K (pc + 1) lv' rest q F) : MF ρ K pc lv (.long x :: rest) q F := fun X r X' e => mw_lstore_n lv' hd hn he (k X r X' e)
theorem mf_astore {i : Nat} {x : Nat} (lv' : List (Nat × Value)) (hd : decode K.2.1 pc = .ok (.astore i, 2)) (hn : i < K.2.2.1) (he : (i, .ref x) :: lv.filter (fun q => !(q.1 == i) && !(q.1 + 1 == i && q.2.category == 2)) = lv') (k : MF ρ K (pc + 2) lv' rest q F) : MF ρ K pc lv (.ref x :: rest) q F := fun X r X' e => mw_astore lv' hd hn he (k X r X' e)
theorem mf_astore_n {i : Fin 4} {x : Nat} (lv' : List (Nat × Value)) (hd : decode K.2.1 pc = .ok (.astore_n i, 1)) (hn : (i : Nat) < K.2.2.1) (he : ((i : Nat), .ref x) :: lv.filter (fun q => !(q.1 == (i : Nat)) && !(q.1 + 1 == (i : Nat) && q.2.category == 2)) = lv') (k : MF ρ K (pc + 1) lv' rest q F) : MF ρ K pc lv (.ref x :: rest) q F := fun X r X' e => mw_astore_n lv' hd hn he (k X r X' e)
theorem mf_iinc (j : Nat) {i : Nat} {n : Int} {x : Int32} (v : Int32) (lv' : List (Nat × Value)) (hd : decode K.2.1 pc = .ok (.iinc i n, 3)) (hj : lv[j]? = some (i, .int x)) (hv : x + Int32.ofInt n = v) (hn : i < K.2.2.1) (he : (i, .int v) :: lv.filter (fun q => !(q.1 == i) && !(q.1 + 1 == i && q.2.category == 2)) = lv') (k : MF ρ K (pc + 3) lv' rest q F) : MF ρ K pc lv rest q F := fun X r X' e => mw_iinc j v lv' hd hj hv hn he (k X r X' e)
theorem mf_lcmp {x y : Int64} (hd : decode K.2.1 pc = .ok (.lcmp, 1)) (k : MF ρ K (pc + 1) lv (.int (lg_cmp x y) :: rest) q F) : MF ρ K pc lv (.long y :: .long x :: rest) q F := fun X r X' e => mw_lcmp hd (k X r X' e)
theorem mf_ldc_w {ix : Nat} {v : Int32} (hd : decode K.2.1 pc = .ok (.ldc_w ix, 3)) (hw : Cond.constant K.1 ix v ∈ m_tb) (k : MF ρ K (pc + 3) lv (.int v :: rest) q F) : MF ρ K pc lv (rest) q F := fun X r X' e => mw_ldc_w hd hw (k X r X' e)
theorem mf_idivC {x y : Int32} (hd : decode K.2.1 pc = .ok (.idiv, 1)) (hne : ¬ y = 0) (k : MF ρ K (pc + 1) lv (.int (x / y) :: rest) q F) : MF ρ K pc lv (.int y :: .int x :: rest) q F := fun X r X' e => mw_idiv hd hne (k X r X' e)
theorem mf_iremC {x y : Int32} (hd : decode K.2.1 pc = .ok (.irem, 1)) (hne : ¬ y = 0) (k : MF ρ K (pc + 1) lv (.int (x - x / y * y) :: rest) q F) : MF ρ K pc lv (.int y :: .int x :: rest) q F := fun X r X' e => mw_irem hd hne (k X r X' e)
theorem mf_idiv {x y : Int32} (hd : decode K.2.1 pc = .ok (.idiv, 1)) (k : MF ρ K (pc + 1) lv (.int (x / y) :: rest) q F) : MF ρ K pc lv (.int y :: .int x :: rest) q (nz y F) := fun X r X' e => by
  by_cases c : y = 0
  · rw [nz, if_pos c] at e
    exact absurd e (by simp)
  · rw [nz, if_neg c] at e
    exact mw_idiv hd c (k X r X' e)
theorem mf_irem {x y : Int32} (hd : decode K.2.1 pc = .ok (.irem, 1)) (k : MF ρ K (pc + 1) lv (.int (x - x / y * y) :: rest) q F) : MF ρ K pc lv (.int y :: .int x :: rest) q (nz y F) := fun X r X' e => by
  by_cases c : y = 0
  · rw [nz, if_pos c] at e
    exact absurd e (by simp)
  · rw [nz, if_neg c] at e
    exact mw_irem hd c (k X r X' e)
theorem mf_mmin {idx : Nat} {x y : Int32} (hd : decode K.2.1 pc = .ok (.invokestatic idx, 3)) (hl : Cond.methodLink K.1 idx yJ9_min_7cf53 ∈ m_tb) (hdep : 1 ≤ K.2.2.2.2.2.1) (hw : (rest.map fun v => v.category).sum ≤ 8) (k : MF ρ K (pc + 3) lv (.int (if y < x then y else x) :: rest) q F) : MF ρ K pc lv (.int y :: .int x :: rest) q F := fun X r X' e => mw_mmin hd hl hdep hw ⟨Nat.zero_le _, Nat.zero_le _⟩ (k X r X' e)
theorem mf_mmax {idx : Nat} {x y : Int32} (hd : decode K.2.1 pc = .ok (.invokestatic idx, 3)) (hl : Cond.methodLink K.1 idx yJ9_max_7cf53 ∈ m_tb) (hdep : 1 ≤ K.2.2.2.2.2.1) (hw : (rest.map fun v => v.category).sum ≤ 8) (k : MF ρ K (pc + 3) lv (.int (if x < y then y else x) :: rest) q F) : MF ρ K pc lv (.int y :: .int x :: rest) q F := fun X r X' e => mw_mmax hd hl hdep hw ⟨Nat.zero_le _, Nat.zero_le _⟩ (k X r X' e)
theorem mf_alen {a n t : Nat} (ht : t < 6) (hd : decode K.2.1 pc = .ok (.arraylength, 1)) (ha : s_A q a t n) (k : MF ρ K (pc + 1) lv (.int (nI n) :: rest) q F) : MF ρ K pc lv (.ref a :: rest) q F := fun X r X' e => mw_alen ht hd ha (k X r X' e)
theorem it_t {c : Prop} [Decidable c] {A B : RM α} {X : X_} (h : c) : it c A B X = A X := if_pos h
theorem it_f {c : Prop} [Decidable c] {A B : RM α} {X : X_} (h : ¬ c) : it c A B X = B X := if_neg h
theorem mf_if_eq {x : Int32} {off : Int} {tgt : Nat} (hd : decode K.2.1 pc = .ok (.ifCond .eq off, 3)) (ht : (pc : Int) + off = (tgt : Int)) (kt : MF ρ K tgt lv rest q F) (kf : MF ρ K (pc + 3) lv rest q G) : MF ρ K pc lv (.int x :: rest) q (it (x = 0) F G) := fun X r X' e => mw_if_eq hd ht (fun h => kt X r X' ((it_t h).symm.trans e)) (fun h => kf X r X' ((it_f h).symm.trans e))
theorem mf_if_eq_t {x : Int32} {off : Int} {tgt : Nat} (hd : decode K.2.1 pc = .ok (.ifCond .eq off, 3)) (ht : (pc : Int) + off = (tgt : Int)) (hc : x = 0) (k : MF ρ K tgt lv rest q F) : MF ρ K pc lv (.int x :: rest) q F := fun X r X' e => mw_if_eq hd ht (fun _ => k X r X' e) (fun h => absurd hc h)
theorem mf_if_eq_f {x : Int32} {off : Int} {tgt : Nat} (hd : decode K.2.1 pc = .ok (.ifCond .eq off, 3)) (ht : (pc : Int) + off = (tgt : Int)) (hc : ¬ x = 0) (k : MF ρ K (pc + 3) lv rest q F) : MF ρ K pc lv (.int x :: rest) q F := fun X r X' e => mw_if_eq hd ht (fun h => absurd h hc) (fun _ => k X r X' e)
theorem mf_icmp_eq {x y : Int32} {off : Int} {tgt : Nat} (hd : decode K.2.1 pc = .ok (.if_icmp .eq off, 3)) (ht : (pc : Int) + off = (tgt : Int)) (kt : MF ρ K tgt lv rest q F) (kf : MF ρ K (pc + 3) lv rest q G) : MF ρ K pc lv (.int y :: .int x :: rest) q (it (x = y) F G) := fun X r X' e => mw_icmp_eq hd ht (fun h => kt X r X' ((it_t h).symm.trans e)) (fun h => kf X r X' ((it_f h).symm.trans e))
theorem mf_icmp_eq_t {x y : Int32} {off : Int} {tgt : Nat} (hd : decode K.2.1 pc = .ok (.if_icmp .eq off, 3)) (ht : (pc : Int) + off = (tgt : Int)) (hc : x = y) (k : MF ρ K tgt lv rest q F) : MF ρ K pc lv (.int y :: .int x :: rest) q F := fun X r X' e => mw_icmp_eq hd ht (fun _ => k X r X' e) (fun h => absurd hc h)
theorem mf_icmp_eq_f {x y : Int32} {off : Int} {tgt : Nat} (hd : decode K.2.1 pc = .ok (.if_icmp .eq off, 3)) (ht : (pc : Int) + off = (tgt : Int)) (hc : ¬ x = y) (k : MF ρ K (pc + 3) lv rest q F) : MF ρ K pc lv (.int y :: .int x :: rest) q F := fun X r X' e => mw_icmp_eq hd ht (fun h => absurd h hc) (fun _ => k X r X' e)
theorem mf_if_ne {x : Int32} {off : Int} {tgt : Nat} (hd : decode K.2.1 pc = .ok (.ifCond .ne off, 3)) (ht : (pc : Int) + off = (tgt : Int)) (kt : MF ρ K tgt lv rest q F) (kf : MF ρ K (pc + 3) lv rest q G) : MF ρ K pc lv (.int x :: rest) q (it (x = 0) G F) := fun X r X' e => mw_if_ne hd ht (fun h => kt X r X' ((it_f h).symm.trans e)) (fun h => kf X r X' ((it_t h).symm.trans e))
theorem mf_if_ne_t {x : Int32} {off : Int} {tgt : Nat} (hd : decode K.2.1 pc = .ok (.ifCond .ne off, 3)) (ht : (pc : Int) + off = (tgt : Int)) (hc : ¬ x = 0) (k : MF ρ K tgt lv rest q F) : MF ρ K pc lv (.int x :: rest) q F := fun X r X' e => mw_if_ne hd ht (fun _ => k X r X' e) (fun h => absurd h hc)
theorem mf_if_ne_f {x : Int32} {off : Int} {tgt : Nat} (hd : decode K.2.1 pc = .ok (.ifCond .ne off, 3)) (ht : (pc : Int) + off = (tgt : Int)) (hc : x = 0) (k : MF ρ K (pc + 3) lv rest q F) : MF ρ K pc lv (.int x :: rest) q F := fun X r X' e => mw_if_ne hd ht (fun h => absurd hc h) (fun _ => k X r X' e)
theorem mf_icmp_ne {x y : Int32} {off : Int} {tgt : Nat} (hd : decode K.2.1 pc = .ok (.if_icmp .ne off, 3)) (ht : (pc : Int) + off = (tgt : Int)) (kt : MF ρ K tgt lv rest q F) (kf : MF ρ K (pc + 3) lv rest q G) : MF ρ K pc lv (.int y :: .int x :: rest) q (it (x = y) G F) := fun X r X' e => mw_icmp_ne hd ht (fun h => kt X r X' ((it_f h).symm.trans e)) (fun h => kf X r X' ((it_t h).symm.trans e))
theorem mf_icmp_ne_t {x y : Int32} {off : Int} {tgt : Nat} (hd : decode K.2.1 pc = .ok (.if_icmp .ne off, 3)) (ht : (pc : Int) + off = (tgt : Int)) (hc : ¬ x = y) (k : MF ρ K tgt lv rest q F) : MF ρ K pc lv (.int y :: .int x :: rest) q F := fun X r X' e => mw_icmp_ne hd ht (fun _ => k X r X' e) (fun h => absurd h hc)
theorem mf_icmp_ne_f {x y : Int32} {off : Int} {tgt : Nat} (hd : decode K.2.1 pc = .ok (.if_icmp .ne off, 3)) (ht : (pc : Int) + off = (tgt : Int)) (hc : x = y) (k : MF ρ K (pc + 3) lv rest q F) : MF ρ K pc lv (.int y :: .int x :: rest) q F := fun X r X' e => mw_icmp_ne hd ht (fun h => absurd hc h) (fun _ => k X r X' e)
theorem mf_if_lt {x : Int32} {off : Int} {tgt : Nat} (hd : decode K.2.1 pc = .ok (.ifCond .lt off, 3)) (ht : (pc : Int) + off = (tgt : Int)) (kt : MF ρ K tgt lv rest q F) (kf : MF ρ K (pc + 3) lv rest q G) : MF ρ K pc lv (.int x :: rest) q (it (x < 0) F G) := fun X r X' e => mw_if_lt hd ht (fun h => kt X r X' ((it_t h).symm.trans e)) (fun h => kf X r X' ((it_f h).symm.trans e))
theorem mf_if_lt_t {x : Int32} {off : Int} {tgt : Nat} (hd : decode K.2.1 pc = .ok (.ifCond .lt off, 3)) (ht : (pc : Int) + off = (tgt : Int)) (hc : x < 0) (k : MF ρ K tgt lv rest q F) : MF ρ K pc lv (.int x :: rest) q F := fun X r X' e => mw_if_lt hd ht (fun _ => k X r X' e) (fun h => absurd hc h)
theorem mf_if_lt_f {x : Int32} {off : Int} {tgt : Nat} (hd : decode K.2.1 pc = .ok (.ifCond .lt off, 3)) (ht : (pc : Int) + off = (tgt : Int)) (hc : ¬ x < 0) (k : MF ρ K (pc + 3) lv rest q F) : MF ρ K pc lv (.int x :: rest) q F := fun X r X' e => mw_if_lt hd ht (fun h => absurd h hc) (fun _ => k X r X' e)
theorem mf_icmp_lt {x y : Int32} {off : Int} {tgt : Nat} (hd : decode K.2.1 pc = .ok (.if_icmp .lt off, 3)) (ht : (pc : Int) + off = (tgt : Int)) (kt : MF ρ K tgt lv rest q F) (kf : MF ρ K (pc + 3) lv rest q G) : MF ρ K pc lv (.int y :: .int x :: rest) q (it (x < y) F G) := fun X r X' e => mw_icmp_lt hd ht (fun h => kt X r X' ((it_t h).symm.trans e)) (fun h => kf X r X' ((it_f h).symm.trans e))
theorem mf_icmp_lt_t {x y : Int32} {off : Int} {tgt : Nat} (hd : decode K.2.1 pc = .ok (.if_icmp .lt off, 3)) (ht : (pc : Int) + off = (tgt : Int)) (hc : x < y) (k : MF ρ K tgt lv rest q F) : MF ρ K pc lv (.int y :: .int x :: rest) q F := fun X r X' e => mw_icmp_lt hd ht (fun _ => k X r X' e) (fun h => absurd hc h)
theorem mf_icmp_lt_f {x y : Int32} {off : Int} {tgt : Nat} (hd : decode K.2.1 pc = .ok (.if_icmp .lt off, 3)) (ht : (pc : Int) + off = (tgt : Int)) (hc : ¬ x < y) (k : MF ρ K (pc + 3) lv rest q F) : MF ρ K pc lv (.int y :: .int x :: rest) q F := fun X r X' e => mw_icmp_lt hd ht (fun h => absurd h hc) (fun _ => k X r X' e)
theorem mf_if_ge {x : Int32} {off : Int} {tgt : Nat} (hd : decode K.2.1 pc = .ok (.ifCond .ge off, 3)) (ht : (pc : Int) + off = (tgt : Int)) (kt : MF ρ K tgt lv rest q F) (kf : MF ρ K (pc + 3) lv rest q G) : MF ρ K pc lv (.int x :: rest) q (it (0 ≤ x) F G) := fun X r X' e => mw_if_ge hd ht (fun h => kt X r X' ((it_t h).symm.trans e)) (fun h => kf X r X' ((it_f h).symm.trans e))
theorem mf_if_ge_t {x : Int32} {off : Int} {tgt : Nat} (hd : decode K.2.1 pc = .ok (.ifCond .ge off, 3)) (ht : (pc : Int) + off = (tgt : Int)) (hc : 0 ≤ x) (k : MF ρ K tgt lv rest q F) : MF ρ K pc lv (.int x :: rest) q F := fun X r X' e => mw_if_ge hd ht (fun _ => k X r X' e) (fun h => absurd hc h)
theorem mf_if_ge_f {x : Int32} {off : Int} {tgt : Nat} (hd : decode K.2.1 pc = .ok (.ifCond .ge off, 3)) (ht : (pc : Int) + off = (tgt : Int)) (hc : ¬ 0 ≤ x) (k : MF ρ K (pc + 3) lv rest q F) : MF ρ K pc lv (.int x :: rest) q F := fun X r X' e => mw_if_ge hd ht (fun h => absurd h hc) (fun _ => k X r X' e)
theorem mf_icmp_ge {x y : Int32} {off : Int} {tgt : Nat} (hd : decode K.2.1 pc = .ok (.if_icmp .ge off, 3)) (ht : (pc : Int) + off = (tgt : Int)) (kt : MF ρ K tgt lv rest q F) (kf : MF ρ K (pc + 3) lv rest q G) : MF ρ K pc lv (.int y :: .int x :: rest) q (it (y ≤ x) F G) := fun X r X' e => mw_icmp_ge hd ht (fun h => kt X r X' ((it_t h).symm.trans e)) (fun h => kf X r X' ((it_f h).symm.trans e))
theorem mf_icmp_ge_t {x y : Int32} {off : Int} {tgt : Nat} (hd : decode K.2.1 pc = .ok (.if_icmp .ge off, 3)) (ht : (pc : Int) + off = (tgt : Int)) (hc : y ≤ x) (k : MF ρ K tgt lv rest q F) : MF ρ K pc lv (.int y :: .int x :: rest) q F := fun X r X' e => mw_icmp_ge hd ht (fun _ => k X r X' e) (fun h => absurd hc h)
theorem mf_icmp_ge_f {x y : Int32} {off : Int} {tgt : Nat} (hd : decode K.2.1 pc = .ok (.if_icmp .ge off, 3)) (ht : (pc : Int) + off = (tgt : Int)) (hc : ¬ y ≤ x) (k : MF ρ K (pc + 3) lv rest q F) : MF ρ K pc lv (.int y :: .int x :: rest) q F := fun X r X' e => mw_icmp_ge hd ht (fun h => absurd h hc) (fun _ => k X r X' e)
theorem mf_if_gt {x : Int32} {off : Int} {tgt : Nat} (hd : decode K.2.1 pc = .ok (.ifCond .gt off, 3)) (ht : (pc : Int) + off = (tgt : Int)) (kt : MF ρ K tgt lv rest q F) (kf : MF ρ K (pc + 3) lv rest q G) : MF ρ K pc lv (.int x :: rest) q (it (0 < x) F G) := fun X r X' e => mw_if_gt hd ht (fun h => kt X r X' ((it_t h).symm.trans e)) (fun h => kf X r X' ((it_f h).symm.trans e))
theorem mf_if_gt_t {x : Int32} {off : Int} {tgt : Nat} (hd : decode K.2.1 pc = .ok (.ifCond .gt off, 3)) (ht : (pc : Int) + off = (tgt : Int)) (hc : 0 < x) (k : MF ρ K tgt lv rest q F) : MF ρ K pc lv (.int x :: rest) q F := fun X r X' e => mw_if_gt hd ht (fun _ => k X r X' e) (fun h => absurd hc h)
theorem mf_if_gt_f {x : Int32} {off : Int} {tgt : Nat} (hd : decode K.2.1 pc = .ok (.ifCond .gt off, 3)) (ht : (pc : Int) + off = (tgt : Int)) (hc : ¬ 0 < x) (k : MF ρ K (pc + 3) lv rest q F) : MF ρ K pc lv (.int x :: rest) q F := fun X r X' e => mw_if_gt hd ht (fun h => absurd h hc) (fun _ => k X r X' e)
theorem mf_icmp_gt {x y : Int32} {off : Int} {tgt : Nat} (hd : decode K.2.1 pc = .ok (.if_icmp .gt off, 3)) (ht : (pc : Int) + off = (tgt : Int)) (kt : MF ρ K tgt lv rest q F) (kf : MF ρ K (pc + 3) lv rest q G) : MF ρ K pc lv (.int y :: .int x :: rest) q (it (y < x) F G) := fun X r X' e => mw_icmp_gt hd ht (fun h => kt X r X' ((it_t h).symm.trans e)) (fun h => kf X r X' ((it_f h).symm.trans e))
theorem mf_icmp_gt_t {x y : Int32} {off : Int} {tgt : Nat} (hd : decode K.2.1 pc = .ok (.if_icmp .gt off, 3)) (ht : (pc : Int) + off = (tgt : Int)) (hc : y < x) (k : MF ρ K tgt lv rest q F) : MF ρ K pc lv (.int y :: .int x :: rest) q F := fun X r X' e => mw_icmp_gt hd ht (fun _ => k X r X' e) (fun h => absurd hc h)
theorem mf_icmp_gt_f {x y : Int32} {off : Int} {tgt : Nat} (hd : decode K.2.1 pc = .ok (.if_icmp .gt off, 3)) (ht : (pc : Int) + off = (tgt : Int)) (hc : ¬ y < x) (k : MF ρ K (pc + 3) lv rest q F) : MF ρ K pc lv (.int y :: .int x :: rest) q F := fun X r X' e => mw_icmp_gt hd ht (fun h => absurd h hc) (fun _ => k X r X' e)
theorem mf_if_le {x : Int32} {off : Int} {tgt : Nat} (hd : decode K.2.1 pc = .ok (.ifCond .le off, 3)) (ht : (pc : Int) + off = (tgt : Int)) (kt : MF ρ K tgt lv rest q F) (kf : MF ρ K (pc + 3) lv rest q G) : MF ρ K pc lv (.int x :: rest) q (it (x ≤ 0) F G) := fun X r X' e => mw_if_le hd ht (fun h => kt X r X' ((it_t h).symm.trans e)) (fun h => kf X r X' ((it_f h).symm.trans e))
theorem mf_if_le_t {x : Int32} {off : Int} {tgt : Nat} (hd : decode K.2.1 pc = .ok (.ifCond .le off, 3)) (ht : (pc : Int) + off = (tgt : Int)) (hc : x ≤ 0) (k : MF ρ K tgt lv rest q F) : MF ρ K pc lv (.int x :: rest) q F := fun X r X' e => mw_if_le hd ht (fun _ => k X r X' e) (fun h => absurd hc h)
theorem mf_if_le_f {x : Int32} {off : Int} {tgt : Nat} (hd : decode K.2.1 pc = .ok (.ifCond .le off, 3)) (ht : (pc : Int) + off = (tgt : Int)) (hc : ¬ x ≤ 0) (k : MF ρ K (pc + 3) lv rest q F) : MF ρ K pc lv (.int x :: rest) q F := fun X r X' e => mw_if_le hd ht (fun h => absurd h hc) (fun _ => k X r X' e)
theorem mf_icmp_le {x y : Int32} {off : Int} {tgt : Nat} (hd : decode K.2.1 pc = .ok (.if_icmp .le off, 3)) (ht : (pc : Int) + off = (tgt : Int)) (kt : MF ρ K tgt lv rest q F) (kf : MF ρ K (pc + 3) lv rest q G) : MF ρ K pc lv (.int y :: .int x :: rest) q (it (x ≤ y) F G) := fun X r X' e => mw_icmp_le hd ht (fun h => kt X r X' ((it_t h).symm.trans e)) (fun h => kf X r X' ((it_f h).symm.trans e))
theorem mf_icmp_le_t {x y : Int32} {off : Int} {tgt : Nat} (hd : decode K.2.1 pc = .ok (.if_icmp .le off, 3)) (ht : (pc : Int) + off = (tgt : Int)) (hc : x ≤ y) (k : MF ρ K tgt lv rest q F) : MF ρ K pc lv (.int y :: .int x :: rest) q F := fun X r X' e => mw_icmp_le hd ht (fun _ => k X r X' e) (fun h => absurd hc h)
theorem mf_icmp_le_f {x y : Int32} {off : Int} {tgt : Nat} (hd : decode K.2.1 pc = .ok (.if_icmp .le off, 3)) (ht : (pc : Int) + off = (tgt : Int)) (hc : ¬ x ≤ y) (k : MF ρ K (pc + 3) lv rest q F) : MF ρ K pc lv (.int y :: .int x :: rest) q F := fun X r X' e => mw_icmp_le hd ht (fun h => absurd h hc) (fun _ => k X r X' e)
theorem mf_case {dflt lo hi : Int} {offs : Array Int} {len : Nat} {x v : Int32} {off : Int} {tgt : Nat} (hd : decode K.2.1 pc = .ok (.tableswitch dflt lo hi offs, len)) (h1 : ¬ v.toInt < lo) (h2 : ¬ hi < v.toInt) (ho : offs[(v.toInt - lo).toNat]? = some off) (ht : (pc : Int) + off = (tgt : Int)) (kt : MF ρ K tgt lv rest q F) (kf : ¬ x = v → MF ρ K pc lv (.int x :: rest) q G) : MF ρ K pc lv (.int x :: rest) q (it (x = v) F G) := fun X r X' e => by
  by_cases c : x = v
  · subst c
    exact mw_tabIn hd h1 h2 ho ht (kt X r X' ((it_t rfl).symm.trans e))
  · exact kf c X r X' ((it_f c).symm.trans e)
theorem mf_dflt {dflt lo hi : Int} {offs : Array Int} {len : Nat} {x : Int32} {tgt : Nat} (hd : decode K.2.1 pc = .ok (.tableswitch dflt lo hi offs, len)) (hx : x.toInt < lo ∨ hi < x.toInt) (ht : (pc : Int) + dflt = (tgt : Int)) (k : MF ρ K tgt lv rest q F) : MF ρ K pc lv (.int x :: rest) q F := fun X r X' e => mw_tabOut hd hx ht (k X r X' e)
theorem mf_geti {a idx : Nat} {F : Int32 → RM α} (ci k : Nat) (hd : decode K.2.1 pc = .ok (.getfield idx, 3)) (hl : Cond.fieldLink K.1 idx (m_T ci k).1 (m_T ci k).2.1 (m_T ci k).2.2.1 ∈ m_tb) (hc : ci < 13) (hk : k < m_fn ci) (ht : m_tg (m_ty ci k) = 0) (ho : s_O q a ci) (kk : ∀ v, MF ρ K (pc + 3) lv (.int v :: rest) q (F v)) : MF ρ K pc lv (.ref a :: rest) q (gI a k F) := fun X r X' e => mw_geti ci k hd hl hc hk ht ho (kk (X.1 a k) X r X' e)
theorem mf_getl {a idx : Nat} {F : Int64 → RM α} (ci k : Nat) (hd : decode K.2.1 pc = .ok (.getfield idx, 3)) (hl : Cond.fieldLink K.1 idx (m_T ci k).1 (m_T ci k).2.1 (m_T ci k).2.2.1 ∈ m_tb) (hc : ci < 13) (hk : k < m_fn ci) (ht : m_tg (m_ty ci k) = 1) (ho : s_O q a ci) (kk : ∀ v, MF ρ K (pc + 3) lv (.long v :: rest) q (F v)) : MF ρ K pc lv (.ref a :: rest) q (gJ a k F) := fun X r X' e => mw_getl ci k hd hl hc hk ht ho (kk (X.2.1 a k) X r X' e)
theorem mf_getr {a b idx : Nat} (ci k : Nat) (hd : decode K.2.1 pc = .ok (.getfield idx, 3)) (hl : Cond.fieldLink K.1 idx (m_T ci k).1 (m_T ci k).2.1 (m_T ci k).2.2.1 ∈ m_tb) (hc : ci < 13) (hk : k < m_fn ci) (ht : m_tg (m_ty ci k) = 2) (ho : s_O q a ci) (hr : q.1 a k = some b) (hne : ¬ a = 62) (kk : MF ρ K (pc + 3) lv (.ref b :: rest) q F) : MF ρ K pc lv (.ref a :: rest) q F := fun X r X' e => mw_getr ci k hd hl hc hk ht ho ((m_q_ne hne).trans hr) (kk X r X' e)
theorem mf_puti {a idx : Nat} {x : Int32} (ci k : Nat) (hd : decode K.2.1 pc = .ok (.putfield idx, 3)) (hl : Cond.fieldLink K.1 idx (m_T ci k).1 (m_T ci k).2.1 (m_T ci k).2.2.1 ∈ m_tb) (hc : ci < 13) (hk : k < m_fn ci) (ht : m_ty ci k = .int) (hfin : (m_T ci k).2.2.2 = false) (ho : s_O q a ci) (kk : MF ρ K (pc + 3) lv rest q F) : MF ρ K pc lv (.int x :: .ref a :: rest) q (pI a k x F) := fun X r X' e => mw_puti ci k hd hl hc hk (by rw [ht]; rfl) hfin ho (by rw [ht]; exact ⟨rfl, rfl⟩) (kk (sI X a k x) r X' e)
theorem m_bool {x : Int32} (h : x = 0 ∨ x = 1) : narrow .boolean (.int x) = .int x ∧ fits .boolean (.int x) = true := by
  rcases h with rfl | rfl <;> exact ⟨rfl, rfl⟩
theorem mf_putzc {a idx : Nat} {x : Int32} (ci k : Nat) (hd : decode K.2.1 pc = .ok (.putfield idx, 3)) (hl : Cond.fieldLink K.1 idx (m_T ci k).1 (m_T ci k).2.1 (m_T ci k).2.2.1 ∈ m_tb) (hc : ci < 13) (hk : k < m_fn ci) (ht : m_ty ci k = .boolean) (hfin : (m_T ci k).2.2.2 = false) (ho : s_O q a ci) (hx : x = 0 ∨ x = 1) (kk : MF ρ K (pc + 3) lv rest q F) : MF ρ K pc lv (.int x :: .ref a :: rest) q (pI a k x F) := fun X r X' e => mw_puti ci k hd hl hc hk (by rw [ht]; rfl) hfin ho (by rw [ht]; exact m_bool hx) (kk (sI X a k x) r X' e)
theorem mf_putz {a idx : Nat} {x : Int32} (ci k : Nat) (hd : decode K.2.1 pc = .ok (.putfield idx, 3)) (hl : Cond.fieldLink K.1 idx (m_T ci k).1 (m_T ci k).2.1 (m_T ci k).2.2.1 ∈ m_tb) (hc : ci < 13) (hk : k < m_fn ci) (ht : m_ty ci k = .boolean) (hfin : (m_T ci k).2.2.2 = false) (ho : s_O q a ci) (kk : MF ρ K (pc + 3) lv rest q F) : MF ρ K pc lv (.int x :: .ref a :: rest) q (pZ a k x F) := fun X r X' e => by
  by_cases c : x = 0 ∨ x = 1
  · rw [pZ, if_pos c] at e
    exact mf_putzc ci k hd hl hc hk ht hfin ho c kk X r X' e
  · rw [pZ, if_neg c] at e
    exact absurd e (by simp)
theorem mf_putl {a idx : Nat} {x : Int64} (ci k : Nat) (hd : decode K.2.1 pc = .ok (.putfield idx, 3)) (hl : Cond.fieldLink K.1 idx (m_T ci k).1 (m_T ci k).2.1 (m_T ci k).2.2.1 ∈ m_tb) (hc : ci < 13) (hk : k < m_fn ci) (ht : m_ty ci k = .long) (hfin : (m_T ci k).2.2.2 = false) (ho : s_O q a ci) (kk : MF ρ K (pc + 3) lv rest q F) : MF ρ K pc lv (.long x :: .ref a :: rest) q (pJ a k x F) := fun X r X' e => mw_putl ci k hd hl hc hk ht hfin ho (kk (sJ X a k x) r X' e)
theorem mf_iald {a n : Nat} {i : Int32} {F : Int32 → RM α} (hd : decode K.2.1 pc = .ok (.iaload, 1)) (ha : s_A q a 0 n) (kk : ∀ v, MF ρ K (pc + 1) lv (.int v :: rest) q (F v)) : MF ρ K pc lv (.int i :: .ref a :: rest) q (rA a n i F) := fun X r X' e => by
  by_cases c : i < 0 ∨ n ≤ i.toNatClampNeg
  · rw [rA, if_pos c] at e
    exact absurd e (by simp)
  · rw [rA, if_neg c] at e
    exact mw_iald hd ha c (kk (X.1 a i.toNatClampNeg) X r X' e)
theorem mf_bald {a n : Nat} {i : Int32} {F : Int32 → RM α} (hd : decode K.2.1 pc = .ok (.baload, 1)) (ha : s_A q a 2 n) (kk : ∀ v, MF ρ K (pc + 1) lv (.int v :: rest) q (F v)) : MF ρ K pc lv (.int i :: .ref a :: rest) q (rA a n i F) := fun X r X' e => by
  by_cases c : i < 0 ∨ n ≤ i.toNatClampNeg
  · rw [rA, if_pos c] at e
    exact absurd e (by simp)
  · rw [rA, if_neg c] at e
    exact mw_bald hd ha c (kk (X.1 a i.toNatClampNeg) X r X' e)
theorem mf_zald {a n : Nat} {i : Int32} {F : Int32 → RM α} (hd : decode K.2.1 pc = .ok (.baload, 1)) (ha : s_A q a 3 n) (kk : ∀ v, MF ρ K (pc + 1) lv (.int v :: rest) q (F v)) : MF ρ K pc lv (.int i :: .ref a :: rest) q (rA a n i F) := fun X r X' e => by
  by_cases c : i < 0 ∨ n ≤ i.toNatClampNeg
  · rw [rA, if_pos c] at e
    exact absurd e (by simp)
  · rw [rA, if_neg c] at e
    exact mw_zald hd ha c (kk (X.1 a i.toNatClampNeg) X r X' e)
theorem mf_lald {a n : Nat} {i : Int32} {F : Int64 → RM α} (hd : decode K.2.1 pc = .ok (.laload, 1)) (ha : s_A q a 1 n) (kk : ∀ v, MF ρ K (pc + 1) lv (.long v :: rest) q (F v)) : MF ρ K pc lv (.int i :: .ref a :: rest) q (rJ a n i F) := fun X r X' e => by
  by_cases c : i < 0 ∨ n ≤ i.toNatClampNeg
  · rw [rJ, if_pos c] at e
    exact absurd e (by simp)
  · rw [rJ, if_neg c] at e
    exact mw_lald hd ha c (kk (X.2.1 a i.toNatClampNeg) X r X' e)
theorem mf_iast {a n : Nat} {i : Int32} {x : Int32} (hd : decode K.2.1 pc = .ok (.iastore, 1)) (ha : s_A q a 0 n) (kk : MF ρ K (pc + 1) lv rest q F) : MF ρ K pc lv (.int x :: .int i :: .ref a :: rest) q (wA a n i x F) := fun X r X' e => by
  by_cases c : i < 0 ∨ n ≤ i.toNatClampNeg
  · rw [wA, if_pos c] at e
    exact absurd e (by simp)
  · rw [wA, if_neg c] at e
    exact mw_iast hd ha c (kk (sI X a i.toNatClampNeg x) r X' e)
theorem mf_bast {a n : Nat} {i : Int32} {x : Int32} (hd : decode K.2.1 pc = .ok (.bastore, 1)) (ha : s_A q a 2 n) (kk : MF ρ K (pc + 1) lv rest q F) : MF ρ K pc lv (.int x :: .int i :: .ref a :: rest) q (wA a n i (x.toInt8.toInt32) F) := fun X r X' e => by
  by_cases c : i < 0 ∨ n ≤ i.toNatClampNeg
  · rw [wA, if_pos c] at e
    exact absurd e (by simp)
  · rw [wA, if_neg c] at e
    exact mw_bast hd ha c (kk (sI X a i.toNatClampNeg (x.toInt8.toInt32)) r X' e)
theorem mf_last {a n : Nat} {i : Int32} {x : Int64} (hd : decode K.2.1 pc = .ok (.lastore, 1)) (ha : s_A q a 1 n) (kk : MF ρ K (pc + 1) lv rest q F) : MF ρ K pc lv (.long x :: .int i :: .ref a :: rest) q (wJ a n i x F) := fun X r X' e => by
  by_cases c : i < 0 ∨ n ≤ i.toNatClampNeg
  · rw [wJ, if_pos c] at e
    exact absurd e (by simp)
  · rw [wJ, if_neg c] at e
    exact mw_last hd ha c (kk (sJ X a i.toNatClampNeg x) r X' e)
theorem mf_zast {a n : Nat} {i x : Int32} (hd : decode K.2.1 pc = .ok (.bastore, 1)) (ha : s_A q a 3 n) (kk : MF ρ K (pc + 1) lv rest q F) : MF ρ K pc lv (.int x :: .int i :: .ref a :: rest) q (wZ a n i x F) := fun X r X' e => by
  by_cases c : i < 0 ∨ n ≤ i.toNatClampNeg
  · rw [wZ, if_pos c] at e
    exact absurd e (by simp)
  · rw [wZ, if_neg c] at e
    by_cases c1 : x = 0 ∨ x = 1
    · rw [if_pos c1] at e
      exact mw_zast hd ha c c1 (kk (sI X a i.toNatClampNeg x) r X' e)
    · rw [if_neg c1] at e
      exact absurd e (by simp)
theorem mf_cVi {f : RM Int32} {F : Int32 → RM α} {y : MethodName} {cc : ByteArray} {nL : Nat} {ret : Option FieldType} {n ci d idx b : Nat} (As : List Value) (hA : AC rI y cc nL ret d (.ref b :: As) q f) (hy : m_YV y cc nL ret n ci) (hd : decode K.2.1 pc = .ok (.invokevirtual idx, 3)) (hl : Cond.methodLink K.1 idx y ∈ m_tb) (hb : s_O q b ci) (hdep : K.2.2.2.2.2.1 = d + 1) (hnA : As.length = n) (hw : (rest.map fun v => v.category).sum ≤ 8) {st : List Value} (hst : st = As.reverse ++ .ref b :: rest) (kk : ∀ v, MF ρ K (pc + 3) lv (.int v :: rest) q (F v)) : MF ρ K pc lv st q (ca f F) := fun X r X' e => by
  subst hst
  rcases hf : f X with _ | ⟨v, X1⟩
  · rw [ca, hf] at e
    exact absurd e (by simp)
  · rw [ca, hf] at e
    have hM := hA X v X1 hf
    exact mw_callV hM hy hd hl hb hdep hnA hw ⟨Nat.zero_le _, Nat.zero_le _⟩ (fun r0 h0 q0 => by obtain ⟨rfl, rfl⟩ := q0; exact kk v X1 r X' e)
theorem mf_cVl {f : RM Int64} {F : Int64 → RM α} {y : MethodName} {cc : ByteArray} {nL : Nat} {ret : Option FieldType} {n ci d idx b : Nat} (As : List Value) (hA : AC rL y cc nL ret d (.ref b :: As) q f) (hy : m_YV y cc nL ret n ci) (hd : decode K.2.1 pc = .ok (.invokevirtual idx, 3)) (hl : Cond.methodLink K.1 idx y ∈ m_tb) (hb : s_O q b ci) (hdep : K.2.2.2.2.2.1 = d + 1) (hnA : As.length = n) (hw : (rest.map fun v => v.category).sum ≤ 8) {st : List Value} (hst : st = As.reverse ++ .ref b :: rest) (kk : ∀ v, MF ρ K (pc + 3) lv (.long v :: rest) q (F v)) : MF ρ K pc lv st q (ca f F) := fun X r X' e => by
  subst hst
  rcases hf : f X with _ | ⟨v, X1⟩
  · rw [ca, hf] at e
    exact absurd e (by simp)
  · rw [ca, hf] at e
    have hM := hA X v X1 hf
    exact mw_callV hM hy hd hl hb hdep hnA hw ⟨Nat.zero_le _, Nat.zero_le _⟩ (fun r0 h0 q0 => by obtain ⟨rfl, rfl⟩ := q0; exact kk v X1 r X' e)
theorem mf_cVv {f : RM Unit} {F : Unit → RM α} {y : MethodName} {cc : ByteArray} {nL : Nat} {ret : Option FieldType} {n ci d idx b : Nat} (As : List Value) (hA : AC rU y cc nL ret d (.ref b :: As) q f) (hy : m_YV y cc nL ret n ci) (hd : decode K.2.1 pc = .ok (.invokevirtual idx, 3)) (hl : Cond.methodLink K.1 idx y ∈ m_tb) (hb : s_O q b ci) (hdep : K.2.2.2.2.2.1 = d + 1) (hnA : As.length = n) (hw : (rest.map fun v => v.category).sum ≤ 8) {st : List Value} (hst : st = As.reverse ++ .ref b :: rest) (kk : ∀ v, MF ρ K (pc + 3) lv (rest) q (F v)) : MF ρ K pc lv st q (ca f F) := fun X r X' e => by
  subst hst
  rcases hf : f X with _ | ⟨v, X1⟩
  · rw [ca, hf] at e
    exact absurd e (by simp)
  · rw [ca, hf] at e
    have hM := hA X v X1 hf
    exact mw_callV hM hy hd hl hb hdep hnA hw ⟨Nat.zero_le _, Nat.zero_le _⟩ (fun r0 h0 q0 => by obtain ⟨rfl, rfl⟩ := q0; exact kk v X1 r X' e)
theorem mf_cSi {f : RM Int32} {F : Int32 → RM α} {y : MethodName} {cc : ByteArray} {nL : Nat} {ret : Option FieldType} {n d idx : Nat} (As : List Value) (hA : AC rI y cc nL ret d As q f) (hy : m_Y y cc nL ret n ∧ Cond.static y ∈ m_tb) (hd : decode K.2.1 pc = .ok (.invokestatic idx, 3)) (hl : Cond.methodLink K.1 idx y ∈ m_tb) (hdep : K.2.2.2.2.2.1 = d + 1) (hnA : As.length = n) (hw : (rest.map fun v => v.category).sum ≤ 8) {st : List Value} (hst : st = As.reverse ++ rest) (kk : ∀ v, MF ρ K (pc + 3) lv (.int v :: rest) q (F v)) : MF ρ K pc lv st q (ca f F) := fun X r X' e => by
  subst hst
  rcases hf : f X with _ | ⟨v, X1⟩
  · rw [ca, hf] at e
    exact absurd e (by simp)
  · rw [ca, hf] at e
    have hM := hA X v X1 hf
    exact mw_callS hM hy hd hl hdep hnA hw ⟨Nat.zero_le _, Nat.zero_le _⟩ (fun r0 h0 q0 => by obtain ⟨rfl, rfl⟩ := q0; exact kk v X1 r X' e)
theorem mf_cSl {f : RM Int64} {F : Int64 → RM α} {y : MethodName} {cc : ByteArray} {nL : Nat} {ret : Option FieldType} {n d idx : Nat} (As : List Value) (hA : AC rL y cc nL ret d As q f) (hy : m_Y y cc nL ret n ∧ Cond.static y ∈ m_tb) (hd : decode K.2.1 pc = .ok (.invokestatic idx, 3)) (hl : Cond.methodLink K.1 idx y ∈ m_tb) (hdep : K.2.2.2.2.2.1 = d + 1) (hnA : As.length = n) (hw : (rest.map fun v => v.category).sum ≤ 8) {st : List Value} (hst : st = As.reverse ++ rest) (kk : ∀ v, MF ρ K (pc + 3) lv (.long v :: rest) q (F v)) : MF ρ K pc lv st q (ca f F) := fun X r X' e => by
  subst hst
  rcases hf : f X with _ | ⟨v, X1⟩
  · rw [ca, hf] at e
    exact absurd e (by simp)
  · rw [ca, hf] at e
    have hM := hA X v X1 hf
    exact mw_callS hM hy hd hl hdep hnA hw ⟨Nat.zero_le _, Nat.zero_le _⟩ (fun r0 h0 q0 => by obtain ⟨rfl, rfl⟩ := q0; exact kk v X1 r X' e)
theorem mf_cSv {f : RM Unit} {F : Unit → RM α} {y : MethodName} {cc : ByteArray} {nL : Nat} {ret : Option FieldType} {n d idx : Nat} (As : List Value) (hA : AC rU y cc nL ret d As q f) (hy : m_Y y cc nL ret n ∧ Cond.static y ∈ m_tb) (hd : decode K.2.1 pc = .ok (.invokestatic idx, 3)) (hl : Cond.methodLink K.1 idx y ∈ m_tb) (hdep : K.2.2.2.2.2.1 = d + 1) (hnA : As.length = n) (hw : (rest.map fun v => v.category).sum ≤ 8) {st : List Value} (hst : st = As.reverse ++ rest) (kk : ∀ v, MF ρ K (pc + 3) lv (rest) q (F v)) : MF ρ K pc lv st q (ca f F) := fun X r X' e => by
  subst hst
  rcases hf : f X with _ | ⟨v, X1⟩
  · rw [ca, hf] at e
    exact absurd e (by simp)
  · rw [ca, hf] at e
    have hM := hA X v X1 hf
    exact mw_callS hM hy hd hl hdep hnA hw ⟨Nat.zero_le _, Nat.zero_le _⟩ (fun r0 h0 q0 => by obtain ⟨rfl, rfl⟩ := q0; exact kk v X1 r X' e)
theorem mf_cSNi {f : RM Int32} {F : Int32 → RM α} {y : MethodName} {cc : ByteArray} {nL : Nat} {ret : Option FieldType} {n d idx : Nat} (As : List Value) (hA : AC rI y cc nL ret d As q f) (hy : m_Y y cc nL ret n ∧ Cond.static y ∈ m_tb) (hd : decode K.2.1 pc = .ok (.invokestatic idx, 3)) (hl : (K.1, idx, y) ∈ m_nest) (hdep : K.2.2.2.2.2.1 = d + 1) (hnA : As.length = n) (hw : (rest.map fun v => v.category).sum ≤ 8) {st : List Value} (hst : st = As.reverse ++ rest) (kk : ∀ v, MF ρ K (pc + 3) lv (.int v :: rest) q (F v)) : MF ρ K pc lv st q (ca f F) := fun X r X' e => by
  subst hst
  rcases hf : f X with _ | ⟨v, X1⟩
  · rw [ca, hf] at e
    exact absurd e (by simp)
  · rw [ca, hf] at e
    have hM := hA X v X1 hf
    exact mw_callSN hM hy hd hl hdep hnA hw ⟨Nat.zero_le _, Nat.zero_le _⟩ (fun r0 h0 q0 => by obtain ⟨rfl, rfl⟩ := q0; exact kk v X1 r X' e)
theorem mf_cSNl {f : RM Int64} {F : Int64 → RM α} {y : MethodName} {cc : ByteArray} {nL : Nat} {ret : Option FieldType} {n d idx : Nat} (As : List Value) (hA : AC rL y cc nL ret d As q f) (hy : m_Y y cc nL ret n ∧ Cond.static y ∈ m_tb) (hd : decode K.2.1 pc = .ok (.invokestatic idx, 3)) (hl : (K.1, idx, y) ∈ m_nest) (hdep : K.2.2.2.2.2.1 = d + 1) (hnA : As.length = n) (hw : (rest.map fun v => v.category).sum ≤ 8) {st : List Value} (hst : st = As.reverse ++ rest) (kk : ∀ v, MF ρ K (pc + 3) lv (.long v :: rest) q (F v)) : MF ρ K pc lv st q (ca f F) := fun X r X' e => by
  subst hst
  rcases hf : f X with _ | ⟨v, X1⟩
  · rw [ca, hf] at e
    exact absurd e (by simp)
  · rw [ca, hf] at e
    have hM := hA X v X1 hf
    exact mw_callSN hM hy hd hl hdep hnA hw ⟨Nat.zero_le _, Nat.zero_le _⟩ (fun r0 h0 q0 => by obtain ⟨rfl, rfl⟩ := q0; exact kk v X1 r X' e)
theorem mf_cSNv {f : RM Unit} {F : Unit → RM α} {y : MethodName} {cc : ByteArray} {nL : Nat} {ret : Option FieldType} {n d idx : Nat} (As : List Value) (hA : AC rU y cc nL ret d As q f) (hy : m_Y y cc nL ret n ∧ Cond.static y ∈ m_tb) (hd : decode K.2.1 pc = .ok (.invokestatic idx, 3)) (hl : (K.1, idx, y) ∈ m_nest) (hdep : K.2.2.2.2.2.1 = d + 1) (hnA : As.length = n) (hw : (rest.map fun v => v.category).sum ≤ 8) {st : List Value} (hst : st = As.reverse ++ rest) (kk : ∀ v, MF ρ K (pc + 3) lv (rest) q (F v)) : MF ρ K pc lv st q (ca f F) := fun X r X' e => by
  subst hst
  rcases hf : f X with _ | ⟨v, X1⟩
  · rw [ca, hf] at e
    exact absurd e (by simp)
  · rw [ca, hf] at e
    have hM := hA X v X1 hf
    exact mw_callSN hM hy hd hl hdep hnA hw ⟨Nat.zero_le _, Nat.zero_le _⟩ (fun r0 h0 q0 => by obtain ⟨rfl, rfl⟩ := q0; exact kk v X1 r X' e)
/-- the History's row: which State stands at i; another put there -/
def rH {α : Type} (i : Int32) (F : Nat → RM α) : RM α := fun X => if i < 0 ∨ 9 ≤ i.toNatClampNeg then none else if X.2.2 i.toNatClampNeg < 9 then F (X.2.2 i.toNatClampNeg) X else none
def wH {α : Type} (i : Int32) (g : Nat) (F : RM α) : RM α := fun X => if i < 0 ∨ 9 ≤ i.toNatClampNeg then none else F (sG X i.toNatClampNeg g)
theorem mf_rH {i : Int32} {F : Nat → RM α} (hd : decode K.2.1 pc = .ok (.aaload, 1)) (ha : s_A q 62 4 9) (kk : ∀ g, g < 9 → MF ρ K (pc + 1) lv (.ref (63 + 7 * g) :: rest) q (F g)) : MF ρ K pc lv (.int i :: .ref 62 :: rest) q (rH i F) := fun X r X' e => by
  by_cases c : i < 0 ∨ 9 ≤ i.toNatClampNeg
  · rw [rH, if_pos c] at e
    exact absurd e (by simp)
  · rw [rH, if_neg c] at e
    by_cases c1 : X.2.2 i.toNatClampNeg < 9
    · rw [if_pos c1] at e
      exact mw_aald (Or.inl rfl) hd ha c (m_q_62 _ _ _) (kk _ c1 X r X' e)
    · rw [if_neg c1] at e
      exact absurd e (by simp)
theorem m_wsG (q : m_S) (X : X_) (k g : Nat) : m_sr (m_w q X) 62 k (some (63 + 7 * g)) = m_w q (sG X k g) := by
  have : (fun a' k' => if a' = 62 ∧ k' = k then some (63 + 7 * g) else (m_q q X.2.2).1 a' k') = (m_q q (sG X k g).2.2).1 := by
    funext a' k'
    by_cases e1 : a' = 62
    · by_cases e2 : k' = k
      · simp [m_q, sG, e1, e2]
      · simp [m_q, sG, e1, e2]
    · simp [m_q, sG, e1]
  unfold m_sr m_w
  exact Prod.ext rfl (Prod.ext rfl (Prod.ext this rfl))
theorem mf_wH {i : Int32} {g : Nat} (hd : decode K.2.1 pc = .ok (.aastore, 1)) (ha : s_A q 62 4 9) (hb : s_O q (63 + 7 * g) 8) (kk : MF ρ K (pc + 1) lv rest q F) : MF ρ K pc lv (.ref (63 + 7 * g) :: .int i :: .ref 62 :: rest) q (wH i g F) := fun X r X' e => by
  by_cases c : i < 0 ∨ 9 ≤ i.toNatClampNeg
  · rw [wH, if_pos c] at e
    exact absurd e (by simp)
  · rw [wH, if_neg c] at e
    exact mw_aast (Or.inl ⟨rfl, rfl⟩) hd ha c hb (by rw [m_wsG]; exact kk _ r X' e)
/-- the row of images -/
def rM {α : Type} (i : Int32) (F : Nat → RM α) : RM α := fun X => if i = 0 then F 150 X else if i = 1 then F 184 X else none
theorem mf_rM {i : Int32} {F : Nat → RM α} (hd : decode K.2.1 pc = .ok (.aaload, 1)) (ha : isImg q) (kk : ∀ b, b = 150 ∨ b = 184 → MF ρ K (pc + 1) lv (.ref b :: rest) q (F b)) : MF ρ K pc lv (.int i :: .ref 140 :: rest) q (rM i F) := fun X r X' e => by
  by_cases c : i = 0
  · rw [rM, if_pos c] at e
    subst c
    exact mw_aald (Or.inr rfl) hd (im_a ha) (show ¬ ((0 : Int32) < 0 ∨ 2 ≤ (0 : Int32).toNatClampNeg) by decide) ((m_q_ne (by decide)).trans (im_e0 ha)) (kk _ (Or.inl rfl) X r X' e)
  · rw [rM, if_neg c] at e
    by_cases c1 : i = 1
    · rw [if_pos c1] at e
      subst c1
      exact mw_aald (Or.inr rfl) hd (im_a ha) (show ¬ ((1 : Int32) < 0 ∨ 2 ≤ (1 : Int32).toNatClampNeg) by decide) ((m_q_ne (by decide)).trans (im_e1 ha)) (kk _ (Or.inr rfl) X r X' e)
    · rw [if_neg c1] at e
      exact absurd e (by simp)
/-- it throws there: nothing is said -/
def th {α : Type} : RM α := fun _ => none
theorem mf_th {st : List Value} : MF ρ K pc lv st q th := fun X r X' e => absurd e (by simp [th])
/-- where it is so -/
noncomputable def gd {α : Type} (c : X_ → Prop) (F : RM α) : RM α := fun X => @ite _ (c X) (Classical.propDecidable _) (F X) none
theorem gd_t {c : X_ → Prop} {F : RM α} {X : X_} (h : c X) : gd c F X = F X := if_pos h
theorem gd_of {c : X_ → Prop} {F : RM α} {X : X_} {r : α × X_} (h : gd c F X = some r) : c X ∧ F X = some r := by
  by_cases e : c X
  · rw [gd, if_pos e] at h
    exact ⟨e, h⟩
  · rw [gd, if_neg e] at h
    exact absurd h (by simp)
end MFR
section MFE
variable {K : m_K} {pc : Nat} {lv : List (Nat × Value)} {q : m_S}
theorem mf_ireturn {x : Int32} {ty : FieldType} (hd : decode K.2.1 pc = .ok (.ireturn, 1)) (hr : K.2.2.2.1 = some ty) (hx : narrow ty (.int x) = .int x) (hz : 0 = K.2.2.2.2.2.2.1 ∧ 0 = K.2.2.2.2.2.2.2) : MF rI K pc lv [.int x] q (re x) := fun X r X' e => by
  obtain ⟨rfl, rfl⟩ := Prod.mk.inj (Option.some.inj e)
  exact mw_ireturn hd hr hx hz ⟨rfl, rfl⟩
theorem mf_zreturn {x : Int32} (hd : decode K.2.1 pc = .ok (.ireturn, 1)) (hr : K.2.2.2.1 = some .boolean) (hz : 0 = K.2.2.2.2.2.2.1 ∧ 0 = K.2.2.2.2.2.2.2) : MF rI K pc lv [.int x] q (rz x) := fun X r X' e => by
  by_cases c : x = 0 ∨ x = 1
  · rw [rz, if_pos c] at e
    obtain ⟨rfl, rfl⟩ := Prod.mk.inj (Option.some.inj e)
    exact mw_ireturn hd hr (m_bool c).1 hz ⟨rfl, rfl⟩
  · rw [rz, if_neg c] at e
    exact absurd e (by simp)
theorem mf_lreturn {x : Int64} (hd : decode K.2.1 pc = .ok (.lreturn, 1)) (hr : K.2.2.2.1 = some .long) (hz : 0 = K.2.2.2.2.2.2.1 ∧ 0 = K.2.2.2.2.2.2.2) : MF rL K pc lv [.long x] q (re x) := fun X r X' e => by
  obtain ⟨rfl, rfl⟩ := Prod.mk.inj (Option.some.inj e)
  exact mw_lreturn hd hr hz ⟨rfl, rfl⟩
theorem mf_return (hd : decode K.2.1 pc = .ok (.return_, 1)) (hr : K.2.2.2.1 = none) (hz : 0 = K.2.2.2.2.2.2.1 ∧ 0 = K.2.2.2.2.2.2.2) : MF rU K pc lv [] q (re ()) := fun X r X' e => by
  obtain ⟨rfl, rfl⟩ := Prod.mk.inj (Option.some.inj e)
  exact mw_return hd hr hz ⟨rfl, rfl⟩
end MFE
section MFL
variable {α : Type} {ρ : α → Option Value} {K : m_K} {pc pj : Nat} {st : List Value} {q : m_S}
def lz0 {α : Type} (B : (RM α) → RM α) : Nat → RM α
  | 0 => fun _ => none
  | n + 1 => B (lz0 B n) 
theorem mf_lz0 {lv : List (Nat × Value)} {B : (RM α) → RM α} (hB : ∀ L : RM α, (MF ρ K pc (lv ) st q (L )) → MF ρ K pc (lv ) st q (B L )) : ∀ (n : Nat), MF ρ K pc (lv ) st q (lz0 B n ) := by
  intro n
  induction n with
  | zero => intro  X r X' e; exact absurd e (by simp [lz0])
  | succ n ih => exact hB _ ih 
def jo0 {α : Type} (J : RM α) (F : (RM α) → RM α) : RM α := F J
theorem mf_jo0 {lv : List (Nat × Value)} {lvj : List (Nat × Value)} {stj : List Value} {J : RM α} {F : (RM α) → RM α} (hJ : MF ρ K pj (lvj ) (stj ) q (J )) (hF : ∀ J : RM α, (MF ρ K pj (lvj ) (stj ) q (J )) → MF ρ K pc lv st q (F J)) : MF ρ K pc lv st q (jo0 J F) := hF J hJ
def lz1 {α : Type} (B : (Int32 → RM α) → Int32 → RM α) : Nat → Int32 → RM α
  | 0, _ => fun _ => none
  | n + 1, a0 => B (lz1 B n) a0
theorem mf_lz1 {lv : Int32 → List (Nat × Value)} {B : (Int32 → RM α) → Int32 → RM α} (hB : ∀ L : Int32 → RM α, (∀ a0 : Int32, MF ρ K pc (lv a0) st q (L a0)) → ∀ a0 : Int32, MF ρ K pc (lv a0) st q (B L a0)) : ∀ (n : Nat), ∀ a0 : Int32, MF ρ K pc (lv a0) st q (lz1 B n a0) := by
  intro n
  induction n with
  | zero => intro a0 X r X' e; exact absurd e (by simp [lz1])
  | succ n ih => intro a0; exact hB _ ih a0
def jo1 {α : Type} (J : Int32 → RM α) (F : (Int32 → RM α) → RM α) : RM α := F J
theorem mf_jo1 {lv : List (Nat × Value)} {lvj : Int32 → List (Nat × Value)} {stj : Int32 → List Value} {J : Int32 → RM α} {F : (Int32 → RM α) → RM α} (hJ : ∀ a0 : Int32, MF ρ K pj (lvj a0) (stj a0) q (J a0)) (hF : ∀ J : Int32 → RM α, (∀ a0 : Int32, MF ρ K pj (lvj a0) (stj a0) q (J a0)) → MF ρ K pc lv st q (F J)) : MF ρ K pc lv st q (jo1 J F) := hF J hJ
def lz2 {α : Type} (B : (Int32 → Int32 → RM α) → Int32 → Int32 → RM α) : Nat → Int32 → Int32 → RM α
  | 0, _, _ => fun _ => none
  | n + 1, a0, a1 => B (lz2 B n) a0 a1
theorem mf_lz2 {lv : Int32 → Int32 → List (Nat × Value)} {B : (Int32 → Int32 → RM α) → Int32 → Int32 → RM α} (hB : ∀ L : Int32 → Int32 → RM α, (∀ a0 a1 : Int32, MF ρ K pc (lv a0 a1) st q (L a0 a1)) → ∀ a0 a1 : Int32, MF ρ K pc (lv a0 a1) st q (B L a0 a1)) : ∀ (n : Nat), ∀ a0 a1 : Int32, MF ρ K pc (lv a0 a1) st q (lz2 B n a0 a1) := by
  intro n
  induction n with
  | zero => intro a0 a1 X r X' e; exact absurd e (by simp [lz2])
  | succ n ih => intro a0 a1; exact hB _ ih a0 a1
def jo2 {α : Type} (J : Int32 → Int32 → RM α) (F : (Int32 → Int32 → RM α) → RM α) : RM α := F J
theorem mf_jo2 {lv : List (Nat × Value)} {lvj : Int32 → Int32 → List (Nat × Value)} {stj : Int32 → Int32 → List Value} {J : Int32 → Int32 → RM α} {F : (Int32 → Int32 → RM α) → RM α} (hJ : ∀ a0 a1 : Int32, MF ρ K pj (lvj a0 a1) (stj a0 a1) q (J a0 a1)) (hF : ∀ J : Int32 → Int32 → RM α, (∀ a0 a1 : Int32, MF ρ K pj (lvj a0 a1) (stj a0 a1) q (J a0 a1)) → MF ρ K pc lv st q (F J)) : MF ρ K pc lv st q (jo2 J F) := hF J hJ
def lz3 {α : Type} (B : (Int32 → Int32 → Int32 → RM α) → Int32 → Int32 → Int32 → RM α) : Nat → Int32 → Int32 → Int32 → RM α
  | 0, _, _, _ => fun _ => none
  | n + 1, a0, a1, a2 => B (lz3 B n) a0 a1 a2
theorem mf_lz3 {lv : Int32 → Int32 → Int32 → List (Nat × Value)} {B : (Int32 → Int32 → Int32 → RM α) → Int32 → Int32 → Int32 → RM α} (hB : ∀ L : Int32 → Int32 → Int32 → RM α, (∀ a0 a1 a2 : Int32, MF ρ K pc (lv a0 a1 a2) st q (L a0 a1 a2)) → ∀ a0 a1 a2 : Int32, MF ρ K pc (lv a0 a1 a2) st q (B L a0 a1 a2)) : ∀ (n : Nat), ∀ a0 a1 a2 : Int32, MF ρ K pc (lv a0 a1 a2) st q (lz3 B n a0 a1 a2) := by
  intro n
  induction n with
  | zero => intro a0 a1 a2 X r X' e; exact absurd e (by simp [lz3])
  | succ n ih => intro a0 a1 a2; exact hB _ ih a0 a1 a2
def jo3 {α : Type} (J : Int32 → Int32 → Int32 → RM α) (F : (Int32 → Int32 → Int32 → RM α) → RM α) : RM α := F J
theorem mf_jo3 {lv : List (Nat × Value)} {lvj : Int32 → Int32 → Int32 → List (Nat × Value)} {stj : Int32 → Int32 → Int32 → List Value} {J : Int32 → Int32 → Int32 → RM α} {F : (Int32 → Int32 → Int32 → RM α) → RM α} (hJ : ∀ a0 a1 a2 : Int32, MF ρ K pj (lvj a0 a1 a2) (stj a0 a1 a2) q (J a0 a1 a2)) (hF : ∀ J : Int32 → Int32 → Int32 → RM α, (∀ a0 a1 a2 : Int32, MF ρ K pj (lvj a0 a1 a2) (stj a0 a1 a2) q (J a0 a1 a2)) → MF ρ K pc lv st q (F J)) : MF ρ K pc lv st q (jo3 J F) := hF J hJ
def lz4 {α : Type} (B : (Int32 → Int32 → Int32 → Int32 → RM α) → Int32 → Int32 → Int32 → Int32 → RM α) : Nat → Int32 → Int32 → Int32 → Int32 → RM α
  | 0, _, _, _, _ => fun _ => none
  | n + 1, a0, a1, a2, a3 => B (lz4 B n) a0 a1 a2 a3
theorem mf_lz4 {lv : Int32 → Int32 → Int32 → Int32 → List (Nat × Value)} {B : (Int32 → Int32 → Int32 → Int32 → RM α) → Int32 → Int32 → Int32 → Int32 → RM α} (hB : ∀ L : Int32 → Int32 → Int32 → Int32 → RM α, (∀ a0 a1 a2 a3 : Int32, MF ρ K pc (lv a0 a1 a2 a3) st q (L a0 a1 a2 a3)) → ∀ a0 a1 a2 a3 : Int32, MF ρ K pc (lv a0 a1 a2 a3) st q (B L a0 a1 a2 a3)) : ∀ (n : Nat), ∀ a0 a1 a2 a3 : Int32, MF ρ K pc (lv a0 a1 a2 a3) st q (lz4 B n a0 a1 a2 a3) := by
  intro n
  induction n with
  | zero => intro a0 a1 a2 a3 X r X' e; exact absurd e (by simp [lz4])
  | succ n ih => intro a0 a1 a2 a3; exact hB _ ih a0 a1 a2 a3
def jo4 {α : Type} (J : Int32 → Int32 → Int32 → Int32 → RM α) (F : (Int32 → Int32 → Int32 → Int32 → RM α) → RM α) : RM α := F J
theorem mf_jo4 {lv : List (Nat × Value)} {lvj : Int32 → Int32 → Int32 → Int32 → List (Nat × Value)} {stj : Int32 → Int32 → Int32 → Int32 → List Value} {J : Int32 → Int32 → Int32 → Int32 → RM α} {F : (Int32 → Int32 → Int32 → Int32 → RM α) → RM α} (hJ : ∀ a0 a1 a2 a3 : Int32, MF ρ K pj (lvj a0 a1 a2 a3) (stj a0 a1 a2 a3) q (J a0 a1 a2 a3)) (hF : ∀ J : Int32 → Int32 → Int32 → Int32 → RM α, (∀ a0 a1 a2 a3 : Int32, MF ρ K pj (lvj a0 a1 a2 a3) (stj a0 a1 a2 a3) q (J a0 a1 a2 a3)) → MF ρ K pc lv st q (F J)) : MF ρ K pc lv st q (jo4 J F) := hF J hJ
def lz5 {α : Type} (B : (Int32 → Int32 → Int32 → Int32 → Int32 → RM α) → Int32 → Int32 → Int32 → Int32 → Int32 → RM α) : Nat → Int32 → Int32 → Int32 → Int32 → Int32 → RM α
  | 0, _, _, _, _, _ => fun _ => none
  | n + 1, a0, a1, a2, a3, a4 => B (lz5 B n) a0 a1 a2 a3 a4
theorem mf_lz5 {lv : Int32 → Int32 → Int32 → Int32 → Int32 → List (Nat × Value)} {B : (Int32 → Int32 → Int32 → Int32 → Int32 → RM α) → Int32 → Int32 → Int32 → Int32 → Int32 → RM α} (hB : ∀ L : Int32 → Int32 → Int32 → Int32 → Int32 → RM α, (∀ a0 a1 a2 a3 a4 : Int32, MF ρ K pc (lv a0 a1 a2 a3 a4) st q (L a0 a1 a2 a3 a4)) → ∀ a0 a1 a2 a3 a4 : Int32, MF ρ K pc (lv a0 a1 a2 a3 a4) st q (B L a0 a1 a2 a3 a4)) : ∀ (n : Nat), ∀ a0 a1 a2 a3 a4 : Int32, MF ρ K pc (lv a0 a1 a2 a3 a4) st q (lz5 B n a0 a1 a2 a3 a4) := by
  intro n
  induction n with
  | zero => intro a0 a1 a2 a3 a4 X r X' e; exact absurd e (by simp [lz5])
  | succ n ih => intro a0 a1 a2 a3 a4; exact hB _ ih a0 a1 a2 a3 a4
def jo5 {α : Type} (J : Int32 → Int32 → Int32 → Int32 → Int32 → RM α) (F : (Int32 → Int32 → Int32 → Int32 → Int32 → RM α) → RM α) : RM α := F J
theorem mf_jo5 {lv : List (Nat × Value)} {lvj : Int32 → Int32 → Int32 → Int32 → Int32 → List (Nat × Value)} {stj : Int32 → Int32 → Int32 → Int32 → Int32 → List Value} {J : Int32 → Int32 → Int32 → Int32 → Int32 → RM α} {F : (Int32 → Int32 → Int32 → Int32 → Int32 → RM α) → RM α} (hJ : ∀ a0 a1 a2 a3 a4 : Int32, MF ρ K pj (lvj a0 a1 a2 a3 a4) (stj a0 a1 a2 a3 a4) q (J a0 a1 a2 a3 a4)) (hF : ∀ J : Int32 → Int32 → Int32 → Int32 → Int32 → RM α, (∀ a0 a1 a2 a3 a4 : Int32, MF ρ K pj (lvj a0 a1 a2 a3 a4) (stj a0 a1 a2 a3 a4) q (J a0 a1 a2 a3 a4)) → MF ρ K pc lv st q (F J)) : MF ρ K pc lv st q (jo5 J F) := hF J hJ
end MFL
