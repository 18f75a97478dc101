/-! the rules: an instruction, a rule (written by gen/rules.py) -/
section AR
variable {Y : ab_Y} {l : Launch} {Z : (Nat → Nat) → State → Prop} {K : ab_K} {d w pc : Nat} {lv : List (Nat × Value)} {st : List Value} {M : ab_M} {n1 n2 : Nat} {Q : ab_O → ab_M → Prop}
theorem aw_iconst {n : Int} {v : Int32} (hd : decode (kB K) pc = .ok (.iconst n, 1)) (hv : Int32.ofInt n = v) (h : AW Y l Z K d w (pc + 1) lv (.int v :: st) M n1 n2 Q) : AW Y l Z K d w pc lv (st) M n1 n2 Q := by
  intro p e s m args below meth c D q H locs ls C hZ S hl
  exact lv_iconst C.1 C.2.1 hd hv (h p e s m args below meth c D q H locs ls C hZ S hl)
theorem aw_bipush {n : Int} {v : Int32} (hd : decode (kB K) pc = .ok (.bipush n, 2)) (hv : (Int8.ofInt n).toInt32 = v) (h : AW Y l Z K d w (pc + 2) lv (.int v :: st) M n1 n2 Q) : AW Y l Z K d w pc lv (st) M n1 n2 Q := by
  intro p e s m args below meth c D q H locs ls C hZ S hl
  exact lv_bipush C.1 C.2.1 hd hv (h p e s m args below meth c D q H locs ls C hZ S hl)
theorem aw_sipush {n : Int} {v : Int32} (hd : decode (kB K) pc = .ok (.sipush n, 3)) (hv : (Int16.ofInt n).toInt32 = v) (h : AW Y l Z K d w (pc + 3) lv (.int v :: st) M n1 n2 Q) : AW Y l Z K d w pc lv (st) M n1 n2 Q := by
  intro p e s m args below meth c D q H locs ls C hZ S hl
  exact lv_sipush C.1 C.2.1 hd hv (h p e s m args below meth c D q H locs ls C hZ S hl)
theorem aw_lconst {n : Fin 2} {v : Int64} (hd : decode (kB K) pc = .ok (.lconst n, 1)) (hv : Int64.ofNat (n : Nat) = v) (h : AW Y l Z K d w (pc + 1) lv (.long v :: st) M n1 n2 Q) : AW Y l Z K d w pc lv (st) M n1 n2 Q := by
  intro p e s m args below meth c D q H locs ls C hZ S hl
  exact lv_lconst C.1 C.2.1 hd hv (h p e s m args below meth c D q H locs ls C hZ S hl)
theorem aw_dconst0 (hd : decode (kB K) pc = .ok (.dconst 0, 1)) (h : AW Y l Z K d w (pc + 1) lv (.double FP.dconst0 :: st) M n1 n2 Q) : AW Y l Z K d w pc lv (st) M n1 n2 Q := by
  intro p e s m args below meth c D q H locs ls C hZ S hl
  exact lv_dconst0 C.1 C.2.1 hd (h p e s m args below meth c D q H locs ls C hZ S hl)
theorem aw_dconst1 (hd : decode (kB K) pc = .ok (.dconst 1, 1)) (h : AW Y l Z K d w (pc + 1) lv (.double FP.dconst1 :: st) M n1 n2 Q) : AW Y l Z K d w pc lv (st) M n1 n2 Q := by
  intro p e s m args below meth c D q H locs ls C hZ S hl
  exact lv_dconst1 C.1 C.2.1 hd (h p e s m args below meth c D q H locs ls C hZ S hl)
theorem aw_ldc2d {index : Nat} {v : UInt64} (hd : decode (kB K) pc = .ok (.ldc2_w index, 3)) (hw : Cond.constantDouble (kY K).cls index v ∈ yW Y) (h : AW Y l Z K d w (pc + 3) lv (.double v :: st) M n1 n2 Q) : AW Y l Z K d w pc lv (st) M n1 n2 Q := by
  intro p e s m args below meth c D q H locs ls C hZ S hl
  exact lv_ldc2d C.1 C.2.1 C.2.2.2.2.2.1 (C.2.2.2.2.2.2.1 _ hw) hd (h p e s m args below meth c D q H locs ls C hZ S hl)
theorem aw_ldci {index : Nat} {v : Int32} (hd : decode (kB K) pc = .ok (.ldc index, 2)) (hw : Cond.constant (kY K).cls index v ∈ yW Y) (h : AW Y l Z K d w (pc + 2) lv (.int v :: st) M n1 n2 Q) : AW Y l Z K d w pc lv (st) M n1 n2 Q := by
  intro p e s m args below meth c D q H locs ls C hZ S hl
  exact lv_ldc C.1 C.2.1 C.2.2.2.2.2.1 (C.2.2.2.2.2.2.1 _ hw) hd (h p e s m args below meth c D q H locs ls C hZ S hl)
theorem aw_iload_n {k : Fin 4} {i : Nat} {x : Int32} (hd : decode (kB K) pc = .ok (.iload_n k, 1)) (hi : (k : Nat) = i) (j : Nat) (hj : lv[j]? = some (i, .int x)) (h : AW Y l Z K d w (pc + 1) lv (.int x :: st) M n1 n2 Q) : AW Y l Z K d w pc lv (st) M n1 n2 Q := by
  intro p e s m args below meth c D q H locs ls C hZ S hl
  exact lv_iload_n C.1 C.2.1 hd hi (lv_at hl j (ab_pat hj)) (h p e s m args below meth c D q H locs ls C hZ S hl)
theorem aw_iload {i : Nat} {x : Int32} (hd : decode (kB K) pc = .ok (.iload i, 2)) (j : Nat) (hj : lv[j]? = some (i, .int x)) (h : AW Y l Z K d w (pc + 2) lv (.int x :: st) M n1 n2 Q) : AW Y l Z K d w pc lv (st) M n1 n2 Q := by
  intro p e s m args below meth c D q H locs ls C hZ S hl
  exact lv_iload C.1 C.2.1 hd (lv_at hl j (ab_pat hj)) (h p e s m args below meth c D q H locs ls C hZ S hl)
theorem aw_dload_n {k : Fin 4} {i : Nat} {x : UInt64} (hd : decode (kB K) pc = .ok (.dload_n k, 1)) (hi : (k : Nat) = i) (j : Nat) (hj : lv[j]? = some (i, .double x)) (h : AW Y l Z K d w (pc + 1) lv (.double x :: st) M n1 n2 Q) : AW Y l Z K d w pc lv (st) M n1 n2 Q := by
  intro p e s m args below meth c D q H locs ls C hZ S hl
  exact lv_dload_n C.1 C.2.1 hd hi (lv_at hl j (ab_pat hj)) (h p e s m args below meth c D q H locs ls C hZ S hl)
theorem aw_dload {i : Nat} {x : UInt64} (hd : decode (kB K) pc = .ok (.dload i, 2)) (j : Nat) (hj : lv[j]? = some (i, .double x)) (h : AW Y l Z K d w (pc + 2) lv (.double x :: st) M n1 n2 Q) : AW Y l Z K d w pc lv (st) M n1 n2 Q := by
  intro p e s m args below meth c D q H locs ls C hZ S hl
  exact lv_dload C.1 C.2.1 hd (lv_at hl j (ab_pat hj)) (h p e s m args below meth c D q H locs ls C hZ S hl)
theorem aw_lload_n {k : Fin 4} {i : Nat} {x : Int64} (hd : decode (kB K) pc = .ok (.lload_n k, 1)) (hi : (k : Nat) = i) (j : Nat) (hj : lv[j]? = some (i, .long x)) (h : AW Y l Z K d w (pc + 1) lv (.long x :: st) M n1 n2 Q) : AW Y l Z K d w pc lv (st) M n1 n2 Q := by
  intro p e s m args below meth c D q H locs ls C hZ S hl
  exact lv_lload_n C.1 C.2.1 hd hi (lv_at hl j (ab_pat hj)) (h p e s m args below meth c D q H locs ls C hZ S hl)
theorem aw_lload {i : Nat} {x : Int64} (hd : decode (kB K) pc = .ok (.lload i, 2)) (j : Nat) (hj : lv[j]? = some (i, .long x)) (h : AW Y l Z K d w (pc + 2) lv (.long x :: st) M n1 n2 Q) : AW Y l Z K d w pc lv (st) M n1 n2 Q := by
  intro p e s m args below meth c D q H locs ls C hZ S hl
  exact lv_lload C.1 C.2.1 hd (lv_at hl j (ab_pat hj)) (h p e s m args below meth c D q H locs ls C hZ S hl)
theorem aw_aload_n {k : Fin 4} {i : Nat} {x : Nat} (hd : decode (kB K) pc = .ok (.aload_n k, 1)) (hi : (k : Nat) = i) (j : Nat) (hj : lv[j]? = some (i, .ref x)) (h : AW Y l Z K d w (pc + 1) lv (.ref x :: st) M n1 n2 Q) : AW Y l Z K d w pc lv (st) M n1 n2 Q := by
  intro p e s m args below meth c D q H locs ls C hZ S hl
  exact lv_aload_n C.1 C.2.1 hd hi (lv_at hl j (ab_pat hj)) (h p e s m args below meth c D q H locs ls C hZ S hl)
theorem aw_aload {i : Nat} {x : Nat} (hd : decode (kB K) pc = .ok (.aload i, 2)) (j : Nat) (hj : lv[j]? = some (i, .ref x)) (h : AW Y l Z K d w (pc + 2) lv (.ref x :: st) M n1 n2 Q) : AW Y l Z K d w pc lv (st) M n1 n2 Q := by
  intro p e s m args below meth c D q H locs ls C hZ S hl
  exact lv_aload C.1 C.2.1 hd (lv_at hl j (ab_pat hj)) (h p e s m args below meth c D q H locs ls C hZ S hl)
theorem aw_iadd {x y : Int32} (hd : decode (kB K) pc = .ok (.iadd, 1)) (h : AW Y l Z K d w (pc + 1) lv (.int (x + y) :: st) M n1 n2 Q) : AW Y l Z K d w pc lv (.int y :: .int x :: st) M n1 n2 Q := by
  intro p e s m args below meth c D q H locs ls C hZ S hl
  exact lv_iadd C.1 C.2.1 hd (h p e s m args below meth c D q H locs ls C hZ S hl)
theorem aw_isub {x y : Int32} (hd : decode (kB K) pc = .ok (.isub, 1)) (h : AW Y l Z K d w (pc + 1) lv (.int (x - y) :: st) M n1 n2 Q) : AW Y l Z K d w pc lv (.int y :: .int x :: st) M n1 n2 Q := by
  intro p e s m args below meth c D q H locs ls C hZ S hl
  exact lv_isub C.1 C.2.1 hd (h p e s m args below meth c D q H locs ls C hZ S hl)
theorem aw_imul {x y : Int32} (hd : decode (kB K) pc = .ok (.imul, 1)) (h : AW Y l Z K d w (pc + 1) lv (.int (x * y) :: st) M n1 n2 Q) : AW Y l Z K d w pc lv (.int y :: .int x :: st) M n1 n2 Q := by
  intro p e s m args below meth c D q H locs ls C hZ S hl
  exact lv_imul C.1 C.2.1 hd (h p e s m args below meth c D q H locs ls C hZ S hl)
theorem aw_iand {x y : Int32} (hd : decode (kB K) pc = .ok (.iand, 1)) (h : AW Y l Z K d w (pc + 1) lv (.int (x &&& y) :: st) M n1 n2 Q) : AW Y l Z K d w pc lv (.int y :: .int x :: st) M n1 n2 Q := by
  intro p e s m args below meth c D q H locs ls C hZ S hl
  exact lv_iand C.1 C.2.1 hd (h p e s m args below meth c D q H locs ls C hZ S hl)
theorem aw_ior {x y : Int32} (hd : decode (kB K) pc = .ok (.ior, 1)) (h : AW Y l Z K d w (pc + 1) lv (.int (x ||| y) :: st) M n1 n2 Q) : AW Y l Z K d w pc lv (.int y :: .int x :: st) M n1 n2 Q := by
  intro p e s m args below meth c D q H locs ls C hZ S hl
  exact lv_ior C.1 C.2.1 hd (h p e s m args below meth c D q H locs ls C hZ S hl)
theorem aw_ixor {x y : Int32} (hd : decode (kB K) pc = .ok (.ixor, 1)) (h : AW Y l Z K d w (pc + 1) lv (.int (x ^^^ y) :: st) M n1 n2 Q) : AW Y l Z K d w pc lv (.int y :: .int x :: st) M n1 n2 Q := by
  intro p e s m args below meth c D q H locs ls C hZ S hl
  exact lv_ixor C.1 C.2.1 hd (h p e s m args below meth c D q H locs ls C hZ S hl)
theorem aw_ishl {x y : Int32} (hd : decode (kB K) pc = .ok (.ishl, 1)) (h : AW Y l Z K d w (pc + 1) lv (.int (x <<< (y &&& 31)) :: st) M n1 n2 Q) : AW Y l Z K d w pc lv (.int y :: .int x :: st) M n1 n2 Q := by
  intro p e s m args below meth c D q H locs ls C hZ S hl
  exact lv_ishl C.1 C.2.1 hd (h p e s m args below meth c D q H locs ls C hZ S hl)
theorem aw_ishr {x y : Int32} (hd : decode (kB K) pc = .ok (.ishr, 1)) (h : AW Y l Z K d w (pc + 1) lv (.int (x >>> (y &&& 31)) :: st) M n1 n2 Q) : AW Y l Z K d w pc lv (.int y :: .int x :: st) M n1 n2 Q := by
  intro p e s m args below meth c D q H locs ls C hZ S hl
  exact lv_ishr C.1 C.2.1 hd (h p e s m args below meth c D q H locs ls C hZ S hl)
theorem aw_idiv {x y : Int32} (hd : decode (kB K) pc = .ok (.idiv, 1)) (hne : ¬ y = 0) (h : AW Y l Z K d w (pc + 1) lv (.int (x / y) :: st) M n1 n2 Q) : AW Y l Z K d w pc lv (.int y :: .int x :: st) M n1 n2 Q := by
  intro p e s m args below meth c D q H locs ls C hZ S hl
  exact lv_idiv C.1 C.2.1 hd hne (h p e s m args below meth c D q H locs ls C hZ S hl)
theorem aw_irem {x y : Int32} (hd : decode (kB K) pc = .ok (.irem, 1)) (hne : ¬ y = 0) (h : AW Y l Z K d w (pc + 1) lv (.int (x - x / y * y) :: st) M n1 n2 Q) : AW Y l Z K d w pc lv (.int y :: .int x :: st) M n1 n2 Q := by
  intro p e s m args below meth c D q H locs ls C hZ S hl
  exact lv_irem C.1 C.2.1 hd hne (h p e s m args below meth c D q H locs ls C hZ S hl)
theorem aw_ineg {x : Int32} (hd : decode (kB K) pc = .ok (.ineg, 1)) (h : AW Y l Z K d w (pc + 1) lv (.int (-x) :: st) M n1 n2 Q) : AW Y l Z K d w pc lv (.int x :: st) M n1 n2 Q := by
  intro p e s m args below meth c D q H locs ls C hZ S hl
  exact lv_ineg C.1 C.2.1 hd (h p e s m args below meth c D q H locs ls C hZ S hl)
theorem aw_dadd {x y : UInt64} (hd : decode (kB K) pc = .ok (.dadd, 1)) (hne : vf_n64 (FP.dadd x y)) (h : AW Y l Z K d w (pc + 1) lv (.double (FP.dadd x y) :: st) M n1 n2 Q) : AW Y l Z K d w pc lv (.double y :: .double x :: st) M n1 n2 Q := by
  intro p e s m args below meth c D q H locs ls C hZ S hl
  exact lv_dadd C.1 C.2.1 hd hne (h p e s m args below meth c D q H locs ls C hZ S hl)
theorem aw_dsub {x y : UInt64} (hd : decode (kB K) pc = .ok (.dsub, 1)) (hne : vf_n64 (FP.dsub x y)) (h : AW Y l Z K d w (pc + 1) lv (.double (FP.dsub x y) :: st) M n1 n2 Q) : AW Y l Z K d w pc lv (.double y :: .double x :: st) M n1 n2 Q := by
  intro p e s m args below meth c D q H locs ls C hZ S hl
  exact lv_dsub C.1 C.2.1 hd hne (h p e s m args below meth c D q H locs ls C hZ S hl)
theorem aw_dmul {x y : UInt64} (hd : decode (kB K) pc = .ok (.dmul, 1)) (hne : vf_n64 (FP.dmul x y)) (h : AW Y l Z K d w (pc + 1) lv (.double (FP.dmul x y) :: st) M n1 n2 Q) : AW Y l Z K d w pc lv (.double y :: .double x :: st) M n1 n2 Q := by
  intro p e s m args below meth c D q H locs ls C hZ S hl
  exact lv_dmul C.1 C.2.1 hd hne (h p e s m args below meth c D q H locs ls C hZ S hl)
theorem aw_ddiv {x y : UInt64} (hd : decode (kB K) pc = .ok (.ddiv, 1)) (hne : vf_n64 (FP.ddiv x y)) (h : AW Y l Z K d w (pc + 1) lv (.double (FP.ddiv x y) :: st) M n1 n2 Q) : AW Y l Z K d w pc lv (.double y :: .double x :: st) M n1 n2 Q := by
  intro p e s m args below meth c D q H locs ls C hZ S hl
  exact lv_ddiv C.1 C.2.1 hd hne (h p e s m args below meth c D q H locs ls C hZ S hl)
theorem aw_i2d {x : Int32} (hd : decode (kB K) pc = .ok (.i2d, 1)) (h : AW Y l Z K d w (pc + 1) lv (.double (FP.i2d x) :: st) M n1 n2 Q) : AW Y l Z K d w pc lv (.int x :: st) M n1 n2 Q := by
  intro p e s m args below meth c D q H locs ls C hZ S hl
  exact lv_i2d C.1 C.2.1 hd (h p e s m args below meth c D q H locs ls C hZ S hl)
theorem aw_l2d {x : Int64} (hd : decode (kB K) pc = .ok (.l2d, 1)) (h : AW Y l Z K d w (pc + 1) lv (.double (FP.l2d x) :: st) M n1 n2 Q) : AW Y l Z K d w pc lv (.long x :: st) M n1 n2 Q := by
  intro p e s m args below meth c D q H locs ls C hZ S hl
  exact lv_l2d C.1 C.2.1 hd (h p e s m args below meth c D q H locs ls C hZ S hl)
theorem aw_d2i {x : UInt64} (hd : decode (kB K) pc = .ok (.d2i, 1)) (h : AW Y l Z K d w (pc + 1) lv (.int (FP.d2i x) :: st) M n1 n2 Q) : AW Y l Z K d w pc lv (.double x :: st) M n1 n2 Q := by
  intro p e s m args below meth c D q H locs ls C hZ S hl
  exact lv_d2i C.1 C.2.1 hd (h p e s m args below meth c D q H locs ls C hZ S hl)
theorem aw_i2l {x : Int32} (hd : decode (kB K) pc = .ok (.i2l, 1)) (h : AW Y l Z K d w (pc + 1) lv (.long x.toInt64 :: st) M n1 n2 Q) : AW Y l Z K d w pc lv (.int x :: st) M n1 n2 Q := by
  intro p e s m args below meth c D q H locs ls C hZ S hl
  exact lv_i2l C.1 C.2.1 hd rfl (h p e s m args below meth c D q H locs ls C hZ S hl)
theorem aw_dcmp {x y : UInt64} {op : CmpOp} (hd : decode (kB K) pc = .ok (.dcmp op, 1)) (h : AW Y l Z K d w (pc + 1) lv (.int (Op.cmpValue (FP.dcmp x y) op) :: st) M n1 n2 Q) : AW Y l Z K d w pc lv (.double y :: .double x :: st) M n1 n2 Q := by
  intro p e s m args below meth c D q H locs ls C hZ S hl
  exact lv_dcmp C.1 C.2.1 hd (h p e s m args below meth c D q H locs ls C hZ S hl)
theorem aw_lcmp {x y : Int64} (hd : decode (kB K) pc = .ok (.lcmp, 1)) (h : AW Y l Z K d w (pc + 1) lv (.int (lg_cmp x y) :: st) M n1 n2 Q) : AW Y l Z K d w pc lv (.long y :: .long x :: st) M n1 n2 Q := by
  intro p e s m args below meth c D q H locs ls C hZ S hl
  exact W.lcmp C.1 C.2.1 hd (h p e s m args below meth c D q H locs ls C hZ S hl)
theorem aw_dup {va : Value} (hd : decode (kB K) pc = .ok (.dup, 1)) (hva : va.category = 1) (h : AW Y l Z K d w (pc + 1) lv (va :: va :: st) M n1 n2 Q) : AW Y l Z K d w pc lv (va :: st) M n1 n2 Q := by
  intro p e s m args below meth c D q H locs ls C hZ S hl
  exact lv_dup C.1 C.2.1 hd ((ab_cat q va).trans hva) (h p e s m args below meth c D q H locs ls C hZ S hl)
theorem aw_pop {va : Value} (hd : decode (kB K) pc = .ok (.pop, 1)) (hva : va.category = 1) (h : AW Y l Z K d w (pc + 1) lv (st) M n1 n2 Q) : AW Y l Z K d w pc lv (va :: st) M n1 n2 Q := by
  intro p e s m args below meth c D q H locs ls C hZ S hl
  exact lv_pop C.1 C.2.1 hd ((ab_cat q va).trans hva) (h p e s m args below meth c D q H locs ls C hZ S hl)
theorem aw_pop2 {va : Value} (hd : decode (kB K) pc = .ok (.pop2, 1)) (hva : va.category = 2) (h : AW Y l Z K d w (pc + 1) lv (st) M n1 n2 Q) : AW Y l Z K d w pc lv (va :: st) M n1 n2 Q := by
  intro p e s m args below meth c D q H locs ls C hZ S hl
  exact lv_pop2_2 C.1 C.2.1 hd ((ab_cat q va).trans hva) (h p e s m args below meth c D q H locs ls C hZ S hl)
theorem aw_dup2_11 {va vb : Value} (hd : decode (kB K) pc = .ok (.dup2, 1)) (hva : va.category = 1) (hvb : vb.category = 1) (h : AW Y l Z K d w (pc + 1) lv (va :: vb :: va :: vb :: st) M n1 n2 Q) : AW Y l Z K d w pc lv (va :: vb :: st) M n1 n2 Q := by
  intro p e s m args below meth c D q H locs ls C hZ S hl
  exact lv_dup2_11 C.1 C.2.1 hd ((ab_cat q va).trans hva) ((ab_cat q vb).trans hvb) (h p e s m args below meth c D q H locs ls C hZ S hl)
theorem aw_dup2_2 {va : Value} (hd : decode (kB K) pc = .ok (.dup2, 1)) (hva : va.category = 2) (h : AW Y l Z K d w (pc + 1) lv (va :: va :: st) M n1 n2 Q) : AW Y l Z K d w pc lv (va :: st) M n1 n2 Q := by
  intro p e s m args below meth c D q H locs ls C hZ S hl
  exact lv_dup2_2 C.1 C.2.1 hd ((ab_cat q va).trans hva) (h p e s m args below meth c D q H locs ls C hZ S hl)
theorem aw_dup_x1 {va vb : Value} (hd : decode (kB K) pc = .ok (.dup_x1, 1)) (hva : va.category = 1) (hvb : vb.category = 1) (h : AW Y l Z K d w (pc + 1) lv (va :: vb :: va :: st) M n1 n2 Q) : AW Y l Z K d w pc lv (va :: vb :: st) M n1 n2 Q := by
  intro p e s m args below meth c D q H locs ls C hZ S hl
  exact lv_dup_x1 C.1 C.2.1 hd ((ab_cat q va).trans hva) ((ab_cat q vb).trans hvb) (h p e s m args below meth c D q H locs ls C hZ S hl)
theorem aw_dup_x2 {va vb vd : Value} (hd : decode (kB K) pc = .ok (.dup_x2, 1)) (hva : va.category = 1) (hvb : vb.category = 1) (hvd : vd.category = 1) (h : AW Y l Z K d w (pc + 1) lv (va :: vb :: vd :: va :: st) M n1 n2 Q) : AW Y l Z K d w pc lv (va :: vb :: vd :: st) M n1 n2 Q := by
  intro p e s m args below meth c D q H locs ls C hZ S hl
  exact lv_dup_x2 C.1 C.2.1 hd ((ab_cat q va).trans hva) ((ab_cat q vb).trans hvb) ((ab_cat q vd).trans hvd) (h p e s m args below meth c D q H locs ls C hZ S hl)
theorem aw_dup2_x1 {va vb : Value} (hd : decode (kB K) pc = .ok (.dup2_x1, 1)) (hva : va.category = 2) (hvb : vb.category = 1) (h : AW Y l Z K d w (pc + 1) lv (va :: vb :: va :: st) M n1 n2 Q) : AW Y l Z K d w pc lv (va :: vb :: st) M n1 n2 Q := by
  intro p e s m args below meth c D q H locs ls C hZ S hl
  exact lv_dup2_x1_2 C.1 C.2.1 hd ((ab_cat q va).trans hva) ((ab_cat q vb).trans hvb) (h p e s m args below meth c D q H locs ls C hZ S hl)
theorem aw_if_eq {x : Int32} {off : Int} {tgt : Nat} (hd : decode (kB K) pc = .ok (.ifCond .eq off, 3)) (ht : (pc : Int) + off = (tgt : Int)) (kt : x = 0 → AW Y l Z K d w tgt lv st M n1 n2 Q) (kf : ¬ x = 0 → AW Y l Z K d w (pc + 3) lv st M n1 n2 Q) : AW Y l Z K d w pc lv (.int x :: st) M n1 n2 Q := by
  intro p e s m args below meth c D q H locs ls C hZ S hl
  exact lv_if_eq C.1 C.2.1 hd ht (fun z => kt z p e s m args below meth c D q H locs ls C hZ S hl) (fun z => kf z p e s m args below meth c D q H locs ls C hZ S hl)
theorem aw_if_ne {x : Int32} {off : Int} {tgt : Nat} (hd : decode (kB K) pc = .ok (.ifCond .ne off, 3)) (ht : (pc : Int) + off = (tgt : Int)) (kt : ¬ x = 0 → AW Y l Z K d w tgt lv st M n1 n2 Q) (kf : x = 0 → AW Y l Z K d w (pc + 3) lv st M n1 n2 Q) : AW Y l Z K d w pc lv (.int x :: st) M n1 n2 Q := by
  intro p e s m args below meth c D q H locs ls C hZ S hl
  exact lv_if_ne C.1 C.2.1 hd ht (fun z => kt z p e s m args below meth c D q H locs ls C hZ S hl) (fun z => kf z p e s m args below meth c D q H locs ls C hZ S hl)
theorem aw_if_lt {x : Int32} {off : Int} {tgt : Nat} (hd : decode (kB K) pc = .ok (.ifCond .lt off, 3)) (ht : (pc : Int) + off = (tgt : Int)) (kt : x < 0 → AW Y l Z K d w tgt lv st M n1 n2 Q) (kf : ¬ x < 0 → AW Y l Z K d w (pc + 3) lv st M n1 n2 Q) : AW Y l Z K d w pc lv (.int x :: st) M n1 n2 Q := by
  intro p e s m args below meth c D q H locs ls C hZ S hl
  exact lv_if_lt C.1 C.2.1 hd ht (fun z => kt z p e s m args below meth c D q H locs ls C hZ S hl) (fun z => kf z p e s m args below meth c D q H locs ls C hZ S hl)
theorem aw_if_ge {x : Int32} {off : Int} {tgt : Nat} (hd : decode (kB K) pc = .ok (.ifCond .ge off, 3)) (ht : (pc : Int) + off = (tgt : Int)) (kt : 0 ≤ x → AW Y l Z K d w tgt lv st M n1 n2 Q) (kf : ¬ 0 ≤ x → AW Y l Z K d w (pc + 3) lv st M n1 n2 Q) : AW Y l Z K d w pc lv (.int x :: st) M n1 n2 Q := by
  intro p e s m args below meth c D q H locs ls C hZ S hl
  exact lv_if_ge C.1 C.2.1 hd ht (fun z => kt z p e s m args below meth c D q H locs ls C hZ S hl) (fun z => kf z p e s m args below meth c D q H locs ls C hZ S hl)
theorem aw_if_gt {x : Int32} {off : Int} {tgt : Nat} (hd : decode (kB K) pc = .ok (.ifCond .gt off, 3)) (ht : (pc : Int) + off = (tgt : Int)) (kt : 0 < x → AW Y l Z K d w tgt lv st M n1 n2 Q) (kf : ¬ 0 < x → AW Y l Z K d w (pc + 3) lv st M n1 n2 Q) : AW Y l Z K d w pc lv (.int x :: st) M n1 n2 Q := by
  intro p e s m args below meth c D q H locs ls C hZ S hl
  exact lv_if_gt C.1 C.2.1 hd ht (fun z => kt z p e s m args below meth c D q H locs ls C hZ S hl) (fun z => kf z p e s m args below meth c D q H locs ls C hZ S hl)
theorem aw_if_le {x : Int32} {off : Int} {tgt : Nat} (hd : decode (kB K) pc = .ok (.ifCond .le off, 3)) (ht : (pc : Int) + off = (tgt : Int)) (kt : x ≤ 0 → AW Y l Z K d w tgt lv st M n1 n2 Q) (kf : ¬ x ≤ 0 → AW Y l Z K d w (pc + 3) lv st M n1 n2 Q) : AW Y l Z K d w pc lv (.int x :: st) M n1 n2 Q := by
  intro p e s m args below meth c D q H locs ls C hZ S hl
  exact lv_if_le C.1 C.2.1 hd ht (fun z => kt z p e s m args below meth c D q H locs ls C hZ S hl) (fun z => kf z p e s m args below meth c D q H locs ls C hZ S hl)
theorem aw_icmp_eq {x y : Int32} {off : Int} {tgt : Nat} (hd : decode (kB K) pc = .ok (.if_icmp .eq off, 3)) (ht : (pc : Int) + off = (tgt : Int)) (kt : x = y → AW Y l Z K d w tgt lv st M n1 n2 Q) (kf : ¬ x = y → AW Y l Z K d w (pc + 3) lv st M n1 n2 Q) : AW Y l Z K d w pc lv (.int y :: .int x :: st) M n1 n2 Q := by
  intro p e s m args below meth c D q H locs ls C hZ S hl
  exact lv_icmp_eq C.1 C.2.1 hd ht (fun z => kt z p e s m args below meth c D q H locs ls C hZ S hl) (fun z => kf z p e s m args below meth c D q H locs ls C hZ S hl)
theorem aw_icmp_ne {x y : Int32} {off : Int} {tgt : Nat} (hd : decode (kB K) pc = .ok (.if_icmp .ne off, 3)) (ht : (pc : Int) + off = (tgt : Int)) (kt : ¬ x = y → AW Y l Z K d w tgt lv st M n1 n2 Q) (kf : x = y → AW Y l Z K d w (pc + 3) lv st M n1 n2 Q) : AW Y l Z K d w pc lv (.int y :: .int x :: st) M n1 n2 Q := by
  intro p e s m args below meth c D q H locs ls C hZ S hl
  exact lv_icmp_ne C.1 C.2.1 hd ht (fun z => kt z p e s m args below meth c D q H locs ls C hZ S hl) (fun z => kf z p e s m args below meth c D q H locs ls C hZ S hl)
theorem aw_icmp_lt {x y : Int32} {off : Int} {tgt : Nat} (hd : decode (kB K) pc = .ok (.if_icmp .lt off, 3)) (ht : (pc : Int) + off = (tgt : Int)) (kt : x < y → AW Y l Z K d w tgt lv st M n1 n2 Q) (kf : ¬ x < y → AW Y l Z K d w (pc + 3) lv st M n1 n2 Q) : AW Y l Z K d w pc lv (.int y :: .int x :: st) M n1 n2 Q := by
  intro p e s m args below meth c D q H locs ls C hZ S hl
  exact lv_icmp_lt C.1 C.2.1 hd ht (fun z => kt z p e s m args below meth c D q H locs ls C hZ S hl) (fun z => kf z p e s m args below meth c D q H locs ls C hZ S hl)
theorem aw_icmp_ge {x y : Int32} {off : Int} {tgt : Nat} (hd : decode (kB K) pc = .ok (.if_icmp .ge off, 3)) (ht : (pc : Int) + off = (tgt : Int)) (kt : y ≤ x → AW Y l Z K d w tgt lv st M n1 n2 Q) (kf : ¬ y ≤ x → AW Y l Z K d w (pc + 3) lv st M n1 n2 Q) : AW Y l Z K d w pc lv (.int y :: .int x :: st) M n1 n2 Q := by
  intro p e s m args below meth c D q H locs ls C hZ S hl
  exact lv_icmp_ge C.1 C.2.1 hd ht (fun z => kt z p e s m args below meth c D q H locs ls C hZ S hl) (fun z => kf z p e s m args below meth c D q H locs ls C hZ S hl)
theorem aw_icmp_gt {x y : Int32} {off : Int} {tgt : Nat} (hd : decode (kB K) pc = .ok (.if_icmp .gt off, 3)) (ht : (pc : Int) + off = (tgt : Int)) (kt : y < x → AW Y l Z K d w tgt lv st M n1 n2 Q) (kf : ¬ y < x → AW Y l Z K d w (pc + 3) lv st M n1 n2 Q) : AW Y l Z K d w pc lv (.int y :: .int x :: st) M n1 n2 Q := by
  intro p e s m args below meth c D q H locs ls C hZ S hl
  exact lv_icmp_gt C.1 C.2.1 hd ht (fun z => kt z p e s m args below meth c D q H locs ls C hZ S hl) (fun z => kf z p e s m args below meth c D q H locs ls C hZ S hl)
theorem aw_icmp_le {x y : Int32} {off : Int} {tgt : Nat} (hd : decode (kB K) pc = .ok (.if_icmp .le off, 3)) (ht : (pc : Int) + off = (tgt : Int)) (kt : x ≤ y → AW Y l Z K d w tgt lv st M n1 n2 Q) (kf : ¬ x ≤ y → AW Y l Z K d w (pc + 3) lv st M n1 n2 Q) : AW Y l Z K d w pc lv (.int y :: .int x :: st) M n1 n2 Q := by
  intro p e s m args below meth c D q H locs ls C hZ S hl
  exact lv_icmp_le C.1 C.2.1 hd ht (fun z => kt z p e s m args below meth c D q H locs ls C hZ S hl) (fun z => kf z p e s m args below meth c D q H locs ls C hZ S hl)
theorem aw_goto {off : Int} {tgt : Nat} (hd : decode (kB K) pc = .ok (.goto off, 3)) (ht : (pc : Int) + off = (tgt : Int)) (h : AW Y l Z K d w tgt lv st M n1 n2 Q) : AW Y l Z K d w pc lv st M n1 n2 Q := by
  intro p e s m args below meth c D q H locs ls C hZ S hl
  exact lv_goto C.1 C.2.1 hd ht (h p e s m args below meth c D q H locs ls C hZ S hl)
theorem aw_tableOut {dflt lo hi : Int} {offs : Array Int} {len : Nat} {x : Int32} {tgt : Nat} (hd : decode (kB K) pc = .ok (.tableswitch dflt lo hi offs, len)) (hx : x.toInt < lo ∨ hi < x.toInt) (ht : (pc : Int) + dflt = (tgt : Int)) (h : AW Y l Z K d w tgt lv st M n1 n2 Q) : AW Y l Z K d w pc lv (.int x :: st) M n1 n2 Q := by
  intro p e s m args below meth c D q H locs ls C hZ S hl
  exact lv_tableOut C.1 C.2.1 hd hx ht (h p e s m args below meth c D q H locs ls C hZ S hl)
theorem aw_tableIn {dflt lo hi : Int} {offs : Array Int} {len : Nat} {x : Int32} {off : Int} {tgt : Nat} (hd : decode (kB K) pc = .ok (.tableswitch dflt lo hi offs, len)) (h1 : ¬ x.toInt < lo) (h2 : ¬ hi < x.toInt) (ho : offs[(x.toInt - lo).toNat]? = some off) (ht : (pc : Int) + off = (tgt : Int)) (h : AW Y l Z K d w tgt lv st M n1 n2 Q) : AW Y l Z K d w pc lv (.int x :: st) M n1 n2 Q := by
  intro p e s m args below meth c D q H locs ls C hZ S hl
  exact lv_tableIn C.1 C.2.1 hd h1 h2 ho ht (h p e s m args below meth c D q H locs ls C hZ S hl)
theorem aw_lookup {dflt : Int} {ps : Array (Int × Int)} {len : Nat} {x : Int32} {off : Int} {tgt : Nat} (hd : decode (kB K) pc = .ok (.lookupswitch dflt ps, len)) (hp : (ps.toList.zip (ps.toList.drop 1)).all (fun (a, next) => a.1 < next.1) = true) (ho : Op.lookupswitch.offset ps.toList dflt x.toInt = off) (ht : (pc : Int) + off = (tgt : Int)) (h : AW Y l Z K d w tgt lv st M n1 n2 Q) : AW Y l Z K d w pc lv (.int x :: st) M n1 n2 Q := by
  intro p e s m args below meth c D q H locs ls C hZ S hl
  exact lv_lookup C.1 C.2.1 hd hp ho ht (h p e s m args below meth c D q H locs ls C hZ S hl)
theorem aw_istore_n {k : Fin 4} {i : Nat} {x : Int32} {lv' : List (Nat × Value)} (hd : decode (kB K) pc = .ok (.istore_n k, 1)) (hi : (k : Nat) = i) (hn : i < kL K) (hl' : (i, Value.int x) :: lv.filter (fun z => !(z.1 == i) && !(z.1 + 1 == i && z.2.category == 2)) = lv') (h : AW Y l Z K d w (pc + 1) lv' st M n1 n2 Q) : AW Y l Z K d w pc lv (.int x :: st) M n1 n2 Q := by
  intro p e s m args below meth c D q H locs ls C hZ S hl
  refine lv_istore_n C.1 C.2.1 hd hi hl hn ?_ (fun ls' hl2 => h p e s m args below meth c D q H locs ls' C hZ S hl2)
  subst hl'
  rw [List.map_cons, ab_filter q _ (fun z => by simp only [ab_p, ab_cat])]
  rfl
theorem aw_istore {i : Nat} {x : Int32} {lv' : List (Nat × Value)} (hd : decode (kB K) pc = .ok (.istore i, 2)) (hn : i < kL K) (hl' : (i, Value.int x) :: lv.filter (fun z => !(z.1 == i) && !(z.1 + 1 == i && z.2.category == 2)) = lv') (h : AW Y l Z K d w (pc + 2) lv' st M n1 n2 Q) : AW Y l Z K d w pc lv (.int x :: st) M n1 n2 Q := by
  intro p e s m args below meth c D q H locs ls C hZ S hl
  refine lv_istore C.1 C.2.1 hd hl hn ?_ (fun ls' hl2 => h p e s m args below meth c D q H locs ls' C hZ S hl2)
  subst hl'
  rw [List.map_cons, ab_filter q _ (fun z => by simp only [ab_p, ab_cat])]
  rfl
theorem aw_astore_n {k : Fin 4} {i : Nat} {x : Nat} {lv' : List (Nat × Value)} (hd : decode (kB K) pc = .ok (.astore_n k, 1)) (hi : (k : Nat) = i) (hn : i < kL K) (hl' : (i, Value.ref x) :: lv.filter (fun z => !(z.1 == i) && !(z.1 + 1 == i && z.2.category == 2)) = lv') (h : AW Y l Z K d w (pc + 1) lv' st M n1 n2 Q) : AW Y l Z K d w pc lv (.ref x :: st) M n1 n2 Q := by
  intro p e s m args below meth c D q H locs ls C hZ S hl
  refine lv_astore_n C.1 C.2.1 hd hi hl hn ?_ (fun ls' hl2 => h p e s m args below meth c D q H locs ls' C hZ S hl2)
  subst hl'
  rw [List.map_cons, ab_filter q _ (fun z => by simp only [ab_p, ab_cat])]
  rfl
theorem aw_astore {i : Nat} {x : Nat} {lv' : List (Nat × Value)} (hd : decode (kB K) pc = .ok (.astore i, 2)) (hn : i < kL K) (hl' : (i, Value.ref x) :: lv.filter (fun z => !(z.1 == i) && !(z.1 + 1 == i && z.2.category == 2)) = lv') (h : AW Y l Z K d w (pc + 2) lv' st M n1 n2 Q) : AW Y l Z K d w pc lv (.ref x :: st) M n1 n2 Q := by
  intro p e s m args below meth c D q H locs ls C hZ S hl
  refine lv_astore C.1 C.2.1 hd hl hn ?_ (fun ls' hl2 => h p e s m args below meth c D q H locs ls' C hZ S hl2)
  subst hl'
  rw [List.map_cons, ab_filter q _ (fun z => by simp only [ab_p, ab_cat])]
  rfl
theorem aw_dstore_n {k : Fin 4} {i : Nat} {x : UInt64} {lv' : List (Nat × Value)} (hd : decode (kB K) pc = .ok (.dstore_n k, 1)) (hi : (k : Nat) = i) (hn : i + 1 < kL K) (hl' : (i, Value.double x) :: lv.filter (fun z => !(z.1 == i) && (!(z.1 == i + 1) && !(z.1 + 1 == i && z.2.category == 2))) = lv') (h : AW Y l Z K d w (pc + 1) lv' st M n1 n2 Q) : AW Y l Z K d w pc lv (.double x :: st) M n1 n2 Q := by
  intro p e s m args below meth c D q H locs ls C hZ S hl
  refine lv_dstore_n C.1 C.2.1 hd hi hl hn ?_ (fun ls' hl2 => h p e s m args below meth c D q H locs ls' C hZ S hl2)
  subst hl'
  rw [List.map_cons, ab_filter q _ (fun z => by simp only [ab_p, ab_cat])]
  rfl
theorem aw_dstore {i : Nat} {x : UInt64} {lv' : List (Nat × Value)} (hd : decode (kB K) pc = .ok (.dstore i, 2)) (hn : i + 1 < kL K) (hl' : (i, Value.double x) :: lv.filter (fun z => !(z.1 == i) && (!(z.1 == i + 1) && !(z.1 + 1 == i && z.2.category == 2))) = lv') (h : AW Y l Z K d w (pc + 2) lv' st M n1 n2 Q) : AW Y l Z K d w pc lv (.double x :: st) M n1 n2 Q := by
  intro p e s m args below meth c D q H locs ls C hZ S hl
  refine lv_dstore C.1 C.2.1 hd hl hn ?_ (fun ls' hl2 => h p e s m args below meth c D q H locs ls' C hZ S hl2)
  subst hl'
  rw [List.map_cons, ab_filter q _ (fun z => by simp only [ab_p, ab_cat])]
  rfl
theorem aw_lstore_n {k : Fin 4} {i : Nat} {x : Int64} {lv' : List (Nat × Value)} (hd : decode (kB K) pc = .ok (.lstore_n k, 1)) (hi : (k : Nat) = i) (hn : i + 1 < kL K) (hl' : (i, Value.long x) :: lv.filter (fun z => !(z.1 == i) && (!(z.1 == i + 1) && !(z.1 + 1 == i && z.2.category == 2))) = lv') (h : AW Y l Z K d w (pc + 1) lv' st M n1 n2 Q) : AW Y l Z K d w pc lv (.long x :: st) M n1 n2 Q := by
  intro p e s m args below meth c D q H locs ls C hZ S hl
  refine lv_lstore_n C.1 C.2.1 hd hi hl hn ?_ (fun ls' hl2 => h p e s m args below meth c D q H locs ls' C hZ S hl2)
  subst hl'
  rw [List.map_cons, ab_filter q _ (fun z => by simp only [ab_p, ab_cat])]
  rfl
theorem aw_lstore {i : Nat} {x : Int64} {lv' : List (Nat × Value)} (hd : decode (kB K) pc = .ok (.lstore i, 2)) (hn : i + 1 < kL K) (hl' : (i, Value.long x) :: lv.filter (fun z => !(z.1 == i) && (!(z.1 == i + 1) && !(z.1 + 1 == i && z.2.category == 2))) = lv') (h : AW Y l Z K d w (pc + 2) lv' st M n1 n2 Q) : AW Y l Z K d w pc lv (.long x :: st) M n1 n2 Q := by
  intro p e s m args below meth c D q H locs ls C hZ S hl
  refine lv_lstore C.1 C.2.1 hd hl hn ?_ (fun ls' hl2 => h p e s m args below meth c D q H locs ls' C hZ S hl2)
  subst hl'
  rw [List.map_cons, ab_filter q _ (fun z => by simp only [ab_p, ab_cat])]
  rfl
theorem aw_iinc {i j : Nat} {n : Int} {x v : Int32} {lv' : List (Nat × Value)} (hd : decode (kB K) pc = .ok (.iinc i n, 3)) (hj : lv[j]? = some (i, .int x)) (hv : x + Int32.ofInt n = v) (hn : i < kL K) (hl' : (i, Value.int v) :: lv.filter (fun z => !(z.1 == i) && !(z.1 + 1 == i && z.2.category == 2)) = lv') (h : AW Y l Z K d w (pc + 3) lv' st M n1 n2 Q) : AW Y l Z K d w pc lv st M n1 n2 Q := by
  intro p e s m args below meth c D q H locs ls C hZ S hl
  refine lv_iinc C.1 C.2.1 hd hl (ab_pat hj) hv hn ?_ (fun ls' hl2 => h p e s m args below meth c D q H locs ls' C hZ S hl2)
  subst hl'
  rw [List.map_cons, ab_filter q _ (fun z => by simp only [ab_p, ab_cat])]
  rfl
theorem aw_pick (ks : List Nat) {lv' : List (Nat × Value)} (hk : lv_pick lv ks = lv') (h : AW Y l Z K d w pc lv' st M n1 n2 Q) : AW Y l Z K d w pc lv st M n1 n2 Q := by
  intro p e s m args below meth c D q H locs ls C hZ S hl
  refine h p e s m args below meth c D q H locs ls C hZ S (lv_sub hl ks ?_)
  subst hk
  simp only [lv_pick, List.getElem?_map, List.map_filterMap]
theorem aw_widen {k1 k2 : Nat} (h1 : n1 ≤ k1) (h2 : n2 ≤ k2) (h : AW Y l Z K d w pc lv st M k1 k2 Q) : AW Y l Z K d w pc lv st M n1 n2 Q := by
  intro p e s m args below meth c D q H locs ls C hZ S hl
  exact W.widen h1 h2 (h p e s m args below meth c D q H locs ls C hZ S hl)
theorem aw_mono {Q' : ab_O → ab_M → Prop} (hQ : ∀ r M', Q r M' → Q' r M') (h : AW Y l Z K d w pc lv st M n1 n2 Q) : AW Y l Z K d w pc lv st M n1 n2 Q' := by
  intro p e s m args below meth c D q H locs ls C hZ S hl
  refine ab_mono (fun t ht => ?_) (h p e s m args below meth c D q H locs ls C hZ S hl)
  obtain ⟨o, a1, a2, ⟨r, M', b1, b2, b3⟩, a3⟩ := ht
  exact ⟨o, a1, a2, ⟨r, M', b1, hQ r M' b2, b3⟩, a3⟩
end AR
