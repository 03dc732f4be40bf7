def iushrF (x y : Int32) : Int32 := (x.toUInt32 >>> (y.toUInt32 &&& Int32.toUInt32 31)).toInt32
def lushrF (x : Int64) (y : Int32) : Int64 := (x.toUInt64 >>> (y.toInt64.toUInt64 &&& Int64.toUInt64 63)).toInt64
def lshlF (x : Int64) (y : Int32) : Int64 := x <<< (y.toInt64 &&& 63)
def lshrF (x : Int64) (y : Int32) : Int64 := x >>> (y.toInt64 &&& 63)
def ishlF (x y : Int32) : Int32 := x <<< (y &&& 31)
def ishrF (x y : Int32) : Int32 := x >>> (y &&& 31)
def iremF (x y : Int32) : Int32 := x - x / y * y
def i2cF (x : Int32) : Int32 := (x.toUInt32 % 65536).toInt32
theorem cat_A (w : Wd) (x : Nat) : (cv w (aA x)).category = 1 := by
  show (va_rf (ad w x)).category = 1
  cases ad w x <;> rfl
theorem ad_some {w : Wd} {x : Nat} (h : ¬ x = 0) (hx : x < 999999) : ∃ a, ad w x = some a := by
  unfold ad
  rw [if_neg h]
  by_cases h1 : x = 1
  · exact ⟨_, if_pos h1⟩
  · rw [if_neg h1, if_pos hx]
    exact ⟨_, rfl⟩
theorem go_iconst {M : MT} {out : Option AV × Hp} {pc : Nat} {loc : List (Option AV)} {stk : List AV} {h : Hp} {n : Int} {v : Int32} (hd : decode (mB M) pc = .ok (.iconst n, 1)) (hv : Int32.ofInt n = v) (k : Go M out (pc + 1) loc (aI v :: stk) h) : Go M out pc loc (stk) h := k.st fun w p e R s m args below meth c Q t0 H locs ls n1 n2 C hH hS hl kk => lv_iconst C.1 C.2.1 hd hv (kk ls hl)
theorem go_bipush {M : MT} {out : Option AV × Hp} {pc : Nat} {loc : List (Option AV)} {stk : List AV} {h : Hp} {n : Int} {v : Int32} (hd : decode (mB M) pc = .ok (.bipush n, 2)) (hv : (Int8.ofInt n).toInt32 = v) (k : Go M out (pc + 2) loc (aI v :: stk) h) : Go M out pc loc (stk) h := k.st fun w p e R s m args below meth c Q t0 H locs ls n1 n2 C hH hS hl kk => lv_bipush C.1 C.2.1 hd hv (kk ls hl)
theorem go_sipush {M : MT} {out : Option AV × Hp} {pc : Nat} {loc : List (Option AV)} {stk : List AV} {h : Hp} {n : Int} {v : Int32} (hd : decode (mB M) pc = .ok (.sipush n, 3)) (hv : (Int16.ofInt n).toInt32 = v) (k : Go M out (pc + 3) loc (aI v :: stk) h) : Go M out pc loc (stk) h := k.st fun w p e R s m args below meth c Q t0 H locs ls n1 n2 C hH hS hl kk => lv_sipush C.1 C.2.1 hd hv (kk ls hl)
theorem go_lconst {M : MT} {out : Option AV × Hp} {pc : Nat} {loc : List (Option AV)} {stk : List AV} {h : Hp} {n : Fin 2} {v : Int64} (hd : decode (mB M) pc = .ok (.lconst n, 1)) (hv : Int64.ofNat (n : Nat) = v) (k : Go M out (pc + 1) loc (aL v :: stk) h) : Go M out pc loc (stk) h := k.st fun w p e R s m args below meth c Q t0 H locs ls n1 n2 C hH hS hl kk => lv_lconst C.1 C.2.1 hd hv (kk ls hl)
theorem go_iadd {M : MT} {out : Option AV × Hp} {pc : Nat} {loc : List (Option AV)} {stk : List AV} {h : Hp} {x y : Int32} (hd : decode (mB M) pc = .ok (.iadd, 1))  (k : Go M out (pc + 1) loc (aI (x + y) :: stk) h) : Go M out pc loc (aI y :: aI x :: stk) h := k.st fun w p e R s m args below meth c Q t0 H locs ls n1 n2 C hH hS hl kk => lv_iadd C.1 C.2.1 hd  (kk ls hl)
theorem go_isub {M : MT} {out : Option AV × Hp} {pc : Nat} {loc : List (Option AV)} {stk : List AV} {h : Hp} {x y : Int32} (hd : decode (mB M) pc = .ok (.isub, 1))  (k : Go M out (pc + 1) loc (aI (x - y) :: stk) h) : Go M out pc loc (aI y :: aI x :: stk) h := k.st fun w p e R s m args below meth c Q t0 H locs ls n1 n2 C hH hS hl kk => lv_isub C.1 C.2.1 hd  (kk ls hl)
theorem go_imul {M : MT} {out : Option AV × Hp} {pc : Nat} {loc : List (Option AV)} {stk : List AV} {h : Hp} {x y : Int32} (hd : decode (mB M) pc = .ok (.imul, 1))  (k : Go M out (pc + 1) loc (aI (x * y) :: stk) h) : Go M out pc loc (aI y :: aI x :: stk) h := k.st fun w p e R s m args below meth c Q t0 H locs ls n1 n2 C hH hS hl kk => lv_imul C.1 C.2.1 hd  (kk ls hl)
theorem go_iand {M : MT} {out : Option AV × Hp} {pc : Nat} {loc : List (Option AV)} {stk : List AV} {h : Hp} {x y : Int32} (hd : decode (mB M) pc = .ok (.iand, 1))  (k : Go M out (pc + 1) loc (aI (x &&& y) :: stk) h) : Go M out pc loc (aI y :: aI x :: stk) h := k.st fun w p e R s m args below meth c Q t0 H locs ls n1 n2 C hH hS hl kk => lv_iand C.1 C.2.1 hd  (kk ls hl)
theorem go_ior {M : MT} {out : Option AV × Hp} {pc : Nat} {loc : List (Option AV)} {stk : List AV} {h : Hp} {x y : Int32} (hd : decode (mB M) pc = .ok (.ior, 1))  (k : Go M out (pc + 1) loc (aI (x ||| y) :: stk) h) : Go M out pc loc (aI y :: aI x :: stk) h := k.st fun w p e R s m args below meth c Q t0 H locs ls n1 n2 C hH hS hl kk => lv_ior C.1 C.2.1 hd  (kk ls hl)
theorem go_ixor {M : MT} {out : Option AV × Hp} {pc : Nat} {loc : List (Option AV)} {stk : List AV} {h : Hp} {x y : Int32} (hd : decode (mB M) pc = .ok (.ixor, 1))  (k : Go M out (pc + 1) loc (aI (x ^^^ y) :: stk) h) : Go M out pc loc (aI y :: aI x :: stk) h := k.st fun w p e R s m args below meth c Q t0 H locs ls n1 n2 C hH hS hl kk => lv_ixor C.1 C.2.1 hd  (kk ls hl)
theorem go_ladd {M : MT} {out : Option AV × Hp} {pc : Nat} {loc : List (Option AV)} {stk : List AV} {h : Hp} {x y : Int64} (hd : decode (mB M) pc = .ok (.ladd, 1))  (k : Go M out (pc + 1) loc (aL (x + y) :: stk) h) : Go M out pc loc (aL y :: aL x :: stk) h := k.st fun w p e R s m args below meth c Q t0 H locs ls n1 n2 C hH hS hl kk => lv_ladd C.1 C.2.1 hd  (kk ls hl)
theorem go_lsub {M : MT} {out : Option AV × Hp} {pc : Nat} {loc : List (Option AV)} {stk : List AV} {h : Hp} {x y : Int64} (hd : decode (mB M) pc = .ok (.lsub, 1))  (k : Go M out (pc + 1) loc (aL (x - y) :: stk) h) : Go M out pc loc (aL y :: aL x :: stk) h := k.st fun w p e R s m args below meth c Q t0 H locs ls n1 n2 C hH hS hl kk => lv_lsub C.1 C.2.1 hd  (kk ls hl)
theorem go_lmul {M : MT} {out : Option AV × Hp} {pc : Nat} {loc : List (Option AV)} {stk : List AV} {h : Hp} {x y : Int64} (hd : decode (mB M) pc = .ok (.lmul, 1))  (k : Go M out (pc + 1) loc (aL (x * y) :: stk) h) : Go M out pc loc (aL y :: aL x :: stk) h := k.st fun w p e R s m args below meth c Q t0 H locs ls n1 n2 C hH hS hl kk => lv_lmul C.1 C.2.1 hd  (kk ls hl)
theorem go_land {M : MT} {out : Option AV × Hp} {pc : Nat} {loc : List (Option AV)} {stk : List AV} {h : Hp} {x y : Int64} (hd : decode (mB M) pc = .ok (.land, 1))  (k : Go M out (pc + 1) loc (aL (x &&& y) :: stk) h) : Go M out pc loc (aL y :: aL x :: stk) h := k.st fun w p e R s m args below meth c Q t0 H locs ls n1 n2 C hH hS hl kk => lv_land C.1 C.2.1 hd  (kk ls hl)
theorem go_lor {M : MT} {out : Option AV × Hp} {pc : Nat} {loc : List (Option AV)} {stk : List AV} {h : Hp} {x y : Int64} (hd : decode (mB M) pc = .ok (.lor, 1))  (k : Go M out (pc + 1) loc (aL (x ||| y) :: stk) h) : Go M out pc loc (aL y :: aL x :: stk) h := k.st fun w p e R s m args below meth c Q t0 H locs ls n1 n2 C hH hS hl kk => lv_lor C.1 C.2.1 hd  (kk ls hl)
theorem go_lxor {M : MT} {out : Option AV × Hp} {pc : Nat} {loc : List (Option AV)} {stk : List AV} {h : Hp} {x y : Int64} (hd : decode (mB M) pc = .ok (.lxor, 1))  (k : Go M out (pc + 1) loc (aL (x ^^^ y) :: stk) h) : Go M out pc loc (aL y :: aL x :: stk) h := k.st fun w p e R s m args below meth c Q t0 H locs ls n1 n2 C hH hS hl kk => lv_lxor C.1 C.2.1 hd  (kk ls hl)
theorem go_ishl {M : MT} {out : Option AV × Hp} {pc : Nat} {loc : List (Option AV)} {stk : List AV} {h : Hp} {x y : Int32} (hd : decode (mB M) pc = .ok (.ishl, 1))  (k : Go M out (pc + 1) loc (aI (ishlF x y) :: stk) h) : Go M out pc loc (aI y :: aI x :: stk) h := k.st fun w p e R s m args below meth c Q t0 H locs ls n1 n2 C hH hS hl kk => lv_ishl C.1 C.2.1 hd  (kk ls hl)
theorem go_ishr {M : MT} {out : Option AV × Hp} {pc : Nat} {loc : List (Option AV)} {stk : List AV} {h : Hp} {x y : Int32} (hd : decode (mB M) pc = .ok (.ishr, 1))  (k : Go M out (pc + 1) loc (aI (ishrF x y) :: stk) h) : Go M out pc loc (aI y :: aI x :: stk) h := k.st fun w p e R s m args below meth c Q t0 H locs ls n1 n2 C hH hS hl kk => lv_ishr C.1 C.2.1 hd  (kk ls hl)
theorem go_ineg {M : MT} {out : Option AV × Hp} {pc : Nat} {loc : List (Option AV)} {stk : List AV} {h : Hp} {x : Int32} (hd : decode (mB M) pc = .ok (.ineg, 1))  (k : Go M out (pc + 1) loc (aI (-x) :: stk) h) : Go M out pc loc (aI x :: stk) h := k.st fun w p e R s m args below meth c Q t0 H locs ls n1 n2 C hH hS hl kk => lv_ineg C.1 C.2.1 hd  (kk ls hl)
theorem go_lneg {M : MT} {out : Option AV × Hp} {pc : Nat} {loc : List (Option AV)} {stk : List AV} {h : Hp} {x : Int64} (hd : decode (mB M) pc = .ok (.lneg, 1))  (k : Go M out (pc + 1) loc (aL (-x) :: stk) h) : Go M out pc loc (aL x :: stk) h := k.st fun w p e R s m args below meth c Q t0 H locs ls n1 n2 C hH hS hl kk => lv_lneg C.1 C.2.1 hd  (kk ls hl)
theorem go_idiv {M : MT} {out : Option AV × Hp} {pc : Nat} {loc : List (Option AV)} {stk : List AV} {h : Hp} {x y : Int32} (hd : decode (mB M) pc = .ok (.idiv, 1)) (hne : ¬ y = 0) (k : Go M out (pc + 1) loc (aI (x / y) :: stk) h) : Go M out pc loc (aI y :: aI x :: stk) h := k.st fun w p e R s m args below meth c Q t0 H locs ls n1 n2 C hH hS hl kk => lv_idiv C.1 C.2.1 hd hne (kk ls hl)
theorem go_irem {M : MT} {out : Option AV × Hp} {pc : Nat} {loc : List (Option AV)} {stk : List AV} {h : Hp} {x y : Int32} (hd : decode (mB M) pc = .ok (.irem, 1)) (hne : ¬ y = 0) (k : Go M out (pc + 1) loc (aI (iremF x y) :: stk) h) : Go M out pc loc (aI y :: aI x :: stk) h := k.st fun w p e R s m args below meth c Q t0 H locs ls n1 n2 C hH hS hl kk => lv_irem C.1 C.2.1 hd hne (kk ls hl)
theorem go_iushr {M : MT} {out : Option AV × Hp} {pc : Nat} {loc : List (Option AV)} {stk : List AV} {h : Hp} {x y : Int32} (hd : decode (mB M) pc = .ok (.iushr, 1))  (k : Go M out (pc + 1) loc (aI (iushrF x y) :: stk) h) : Go M out pc loc (aI y :: aI x :: stk) h := k.st fun w p e R s m args below meth c Q t0 H locs ls n1 n2 C hH hS hl kk => lv_iushr C.1 C.2.1 hd rfl (kk ls hl)
theorem go_lushr {M : MT} {out : Option AV × Hp} {pc : Nat} {loc : List (Option AV)} {stk : List AV} {h : Hp} {x : Int64} {y : Int32} (hd : decode (mB M) pc = .ok (.lushr, 1))  (k : Go M out (pc + 1) loc (aL (lushrF x y) :: stk) h) : Go M out pc loc (aI y :: aL x :: stk) h := k.st fun w p e R s m args below meth c Q t0 H locs ls n1 n2 C hH hS hl kk => lv_lushr C.1 C.2.1 hd rfl (kk ls hl)
theorem go_lshl {M : MT} {out : Option AV × Hp} {pc : Nat} {loc : List (Option AV)} {stk : List AV} {h : Hp} {x : Int64} {y : Int32} (hd : decode (mB M) pc = .ok (.lshl, 1))  (k : Go M out (pc + 1) loc (aL (lshlF x y) :: stk) h) : Go M out pc loc (aI y :: aL x :: stk) h := k.st fun w p e R s m args below meth c Q t0 H locs ls n1 n2 C hH hS hl kk => lv_lshl C.1 C.2.1 hd rfl (kk ls hl)
theorem go_lshr {M : MT} {out : Option AV × Hp} {pc : Nat} {loc : List (Option AV)} {stk : List AV} {h : Hp} {x : Int64} {y : Int32} (hd : decode (mB M) pc = .ok (.lshr, 1))  (k : Go M out (pc + 1) loc (aL (lshrF x y) :: stk) h) : Go M out pc loc (aI y :: aL x :: stk) h := k.st fun w p e R s m args below meth c Q t0 H locs ls n1 n2 C hH hS hl kk => lv_lshr C.1 C.2.1 hd rfl (kk ls hl)
theorem go_i2l {M : MT} {out : Option AV × Hp} {pc : Nat} {loc : List (Option AV)} {stk : List AV} {h : Hp} {x : Int32} (hd : decode (mB M) pc = .ok (.i2l, 1))  (k : Go M out (pc + 1) loc (aL x.toInt64 :: stk) h) : Go M out pc loc (aI x :: stk) h := k.st fun w p e R s m args below meth c Q t0 H locs ls n1 n2 C hH hS hl kk => lv_i2l C.1 C.2.1 hd rfl (kk ls hl)
theorem go_l2i {M : MT} {out : Option AV × Hp} {pc : Nat} {loc : List (Option AV)} {stk : List AV} {h : Hp} {x : Int64} (hd : decode (mB M) pc = .ok (.l2i, 1))  (k : Go M out (pc + 1) loc (aI x.toInt32 :: stk) h) : Go M out pc loc (aL x :: stk) h := k.st fun w p e R s m args below meth c Q t0 H locs ls n1 n2 C hH hS hl kk => lv_l2i C.1 C.2.1 hd rfl (kk ls hl)
theorem go_i2b {M : MT} {out : Option AV × Hp} {pc : Nat} {loc : List (Option AV)} {stk : List AV} {h : Hp} {x : Int32} (hd : decode (mB M) pc = .ok (.i2b, 1))  (k : Go M out (pc + 1) loc (aI x.toInt8.toInt32 :: stk) h) : Go M out pc loc (aI x :: stk) h := k.st fun w p e R s m args below meth c Q t0 H locs ls n1 n2 C hH hS hl kk => lv_i2b C.1 C.2.1 hd rfl (kk ls hl)
theorem go_i2c {M : MT} {out : Option AV × Hp} {pc : Nat} {loc : List (Option AV)} {stk : List AV} {h : Hp} {x : Int32} (hd : decode (mB M) pc = .ok (.i2c, 1))  (k : Go M out (pc + 1) loc (aI (i2cF x) :: stk) h) : Go M out pc loc (aI x :: stk) h := k.st fun w p e R s m args below meth c Q t0 H locs ls n1 n2 C hH hS hl kk => lv_i2c C.1 C.2.1 hd rfl (kk ls hl)
theorem go_lcmp {M : MT} {out : Option AV × Hp} {pc : Nat} {loc : List (Option AV)} {stk : List AV} {h : Hp} {x y : Int64} (hd : decode (mB M) pc = .ok (.lcmp, 1))  (k : Go M out (pc + 1) loc (aI (lg_cmp x y) :: stk) h) : Go M out pc loc (aL y :: aL x :: stk) h := k.st fun w p e R s m args below meth c Q t0 H locs ls n1 n2 C hH hS hl kk => W.lcmp C.1 C.2.1 hd  (kk ls hl)
theorem go_null {M : MT} {out : Option AV × Hp} {pc : Nat} {loc : List (Option AV)} {stk : List AV} {h : Hp}  (hd : decode (mB M) pc = .ok (.aconst_null, 1))  (k : Go M out (pc + 1) loc (aA 0 :: stk) h) : Go M out pc loc (stk) h := k.st fun w p e R s m args below meth c Q t0 H locs ls n1 n2 C hH hS hl kk => lv_null C.1 C.2.1 hd  (kk ls hl)
theorem go_ldc {M : MT} {out : Option AV × Hp} {pc : Nat} {loc : List (Option AV)} {stk : List AV} {h : Hp} {i : Nat} {v : Int32} (hc : Cond.constant (mY M).cls i v ∈ GW) (hd : decode (mB M) pc = .ok (.ldc i, 2)) (k : Go M out (pc + 2) loc (aI v :: stk) h) : Go M out pc loc stk h := k.st fun w p e R s m args below meth c Q t0 H locs ls n1 n2 C hH hS hl kk => lv_ldc C.1 C.2.1 C.2.2.2.1 (C.2.2.2.2.1 _ hc) hd (kk ls hl)
theorem go_ldcw {M : MT} {out : Option AV × Hp} {pc : Nat} {loc : List (Option AV)} {stk : List AV} {h : Hp} {i : Nat} {v : Int32} (hc : Cond.constant (mY M).cls i v ∈ GW) (hd : decode (mB M) pc = .ok (.ldc_w i, 3)) (k : Go M out (pc + 3) loc (aI v :: stk) h) : Go M out pc loc stk h := k.st fun w p e R s m args below meth c Q t0 H locs ls n1 n2 C hH hS hl kk => lv_ldcw C.1 C.2.1 C.2.2.2.1 (C.2.2.2.2.1 _ hc) hd (kk ls hl)
theorem go_ldc2 {M : MT} {out : Option AV × Hp} {pc : Nat} {loc : List (Option AV)} {stk : List AV} {h : Hp} {i : Nat} {v : Int64} (hc : Cond.constantLong (mY M).cls i v ∈ GW) (hd : decode (mB M) pc = .ok (.ldc2_w i, 3)) (k : Go M out (pc + 3) loc (aL v :: stk) h) : Go M out pc loc stk h := k.st fun w p e R s m args below meth c Q t0 H locs ls n1 n2 C hH hS hl kk => lv_ldc2 C.1 C.2.1 C.2.2.2.1 (C.2.2.2.2.1 _ hc) hd (kk ls hl)
theorem go_dupI {M : MT} {out : Option AV × Hp} {pc : Nat} {loc : List (Option AV)} {stk : List AV} {h : Hp} {x : Int32} (hd : decode (mB M) pc = .ok (.dup, 1)) (k : Go M out (pc + 1) loc (aI x :: aI x :: stk) h) : Go M out pc loc (aI x :: stk) h := k.st fun w p e R s m args below meth c Q t0 H locs ls n1 n2 C hH hS hl kk => lv_dup C.1 C.2.1 (va := cv w (aI x)) hd rfl (kk ls hl)
theorem go_popI {M : MT} {out : Option AV × Hp} {pc : Nat} {loc : List (Option AV)} {stk : List AV} {h : Hp} {x : Int32} (hd : decode (mB M) pc = .ok (.pop, 1)) (k : Go M out (pc + 1) loc stk h) : Go M out pc loc (aI x :: stk) h := k.st fun w p e R s m args below meth c Q t0 H locs ls n1 n2 C hH hS hl kk => lv_pop C.1 C.2.1 (va := cv w (aI x)) hd rfl (kk ls hl)
theorem go_dupA {M : MT} {out : Option AV × Hp} {pc : Nat} {loc : List (Option AV)} {stk : List AV} {h : Hp} {x : Nat} (hd : decode (mB M) pc = .ok (.dup, 1)) (k : Go M out (pc + 1) loc (aA x :: aA x :: stk) h) : Go M out pc loc (aA x :: stk) h := k.st fun w p e R s m args below meth c Q t0 H locs ls n1 n2 C hH hS hl kk => lv_dup C.1 C.2.1 (va := cv w (aA x)) hd (cat_A w x) (kk ls hl)
theorem go_popA {M : MT} {out : Option AV × Hp} {pc : Nat} {loc : List (Option AV)} {stk : List AV} {h : Hp} {x : Nat} (hd : decode (mB M) pc = .ok (.pop, 1)) (k : Go M out (pc + 1) loc stk h) : Go M out pc loc (aA x :: stk) h := k.st fun w p e R s m args below meth c Q t0 H locs ls n1 n2 C hH hS hl kk => lv_pop C.1 C.2.1 (va := cv w (aA x)) hd (cat_A w x) (kk ls hl)
theorem go_dup2IA {M : MT} {out : Option AV × Hp} {pc : Nat} {loc : List (Option AV)} {stk : List AV} {h : Hp} {x : Int32} {y : Nat} (hd : decode (mB M) pc = .ok (.dup2, 1)) (k : Go M out (pc + 1) loc (aI x :: aA y :: aI x :: aA y :: stk) h) : Go M out pc loc (aI x :: aA y :: stk) h := k.st fun w p e R s m args below meth c Q t0 H locs ls n1 n2 C hH hS hl kk => lv_dup2_11 C.1 C.2.1 (va := cv w (aI x)) (vb := cv w (aA y)) hd rfl (cat_A w y) (kk ls hl)
theorem go_dup2II {M : MT} {out : Option AV × Hp} {pc : Nat} {loc : List (Option AV)} {stk : List AV} {h : Hp} {x y : Int32} (hd : decode (mB M) pc = .ok (.dup2, 1)) (k : Go M out (pc + 1) loc (aI x :: aI y :: aI x :: aI y :: stk) h) : Go M out pc loc (aI x :: aI y :: stk) h := k.st fun w p e R s m args below meth c Q t0 H locs ls n1 n2 C hH hS hl kk => lv_dup2_11 C.1 C.2.1 (va := cv w (aI x)) (vb := cv w (aI y)) hd rfl rfl (kk ls hl)
theorem go_dup_x1II {M : MT} {out : Option AV × Hp} {pc : Nat} {loc : List (Option AV)} {stk : List AV} {h : Hp} {x y : Int32} (hd : decode (mB M) pc = .ok (.dup_x1, 1)) (k : Go M out (pc + 1) loc (aI x :: aI y :: aI x :: stk) h) : Go M out pc loc (aI x :: aI y :: stk) h := k.st fun w p e R s m args below meth c Q t0 H locs ls n1 n2 C hH hS hl kk => lv_dup_x1 C.1 C.2.1 (va := cv w (aI x)) (vb := cv w (aI y)) hd rfl rfl (kk ls hl)
theorem go_dup_x1IA {M : MT} {out : Option AV × Hp} {pc : Nat} {loc : List (Option AV)} {stk : List AV} {h : Hp} {x : Int32} {y : Nat} (hd : decode (mB M) pc = .ok (.dup_x1, 1)) (k : Go M out (pc + 1) loc (aI x :: aA y :: aI x :: stk) h) : Go M out pc loc (aI x :: aA y :: stk) h := k.st fun w p e R s m args below meth c Q t0 H locs ls n1 n2 C hH hS hl kk => lv_dup_x1 C.1 C.2.1 (va := cv w (aI x)) (vb := cv w (aA y)) hd rfl (cat_A w y) (kk ls hl)
theorem go_iload {M : MT} {out : Option AV × Hp} {pc : Nat} {loc : List (Option AV)} {stk : List AV} {h : Hp} {i : Nat} {x : Int32} (hd : decode (mB M) pc = .ok (.iload i, 2)) (hx : loc[i]? = some (some (aI x))) (k : Go M out (pc + 2) loc (aI x :: stk) h) : Go M out pc loc stk h := k.st fun w p e R s m args below meth c Q t0 H locs ls n1 n2 C hH hS hl kk => lv_iload C.1 C.2.1 hd (hl.2.2 _ _ hx) (kk ls hl)
theorem go_iloadn {M : MT} {out : Option AV × Hp} {pc : Nat} {loc : List (Option AV)} {stk : List AV} {h : Hp} {q : Fin 4} {x : Int32} (hd : decode (mB M) pc = .ok (.iload_n q, 1)) (hx : loc[(q : Nat)]? = some (some (aI x))) (k : Go M out (pc + 1) loc (aI x :: stk) h) : Go M out pc loc stk h := k.st fun w p e R s m args below meth c Q t0 H locs ls n1 n2 C hH hS hl kk => lv_iload_n C.1 C.2.1 hd rfl (hl.2.2 _ _ hx) (kk ls hl)
theorem go_lload {M : MT} {out : Option AV × Hp} {pc : Nat} {loc : List (Option AV)} {stk : List AV} {h : Hp} {i : Nat} {x : Int64} (hd : decode (mB M) pc = .ok (.lload i, 2)) (hx : loc[i]? = some (some (aL x))) (k : Go M out (pc + 2) loc (aL x :: stk) h) : Go M out pc loc stk h := k.st fun w p e R s m args below meth c Q t0 H locs ls n1 n2 C hH hS hl kk => lv_lload C.1 C.2.1 hd (hl.2.2 _ _ hx) (kk ls hl)
theorem go_lloadn {M : MT} {out : Option AV × Hp} {pc : Nat} {loc : List (Option AV)} {stk : List AV} {h : Hp} {q : Fin 4} {x : Int64} (hd : decode (mB M) pc = .ok (.lload_n q, 1)) (hx : loc[(q : Nat)]? = some (some (aL x))) (k : Go M out (pc + 1) loc (aL x :: stk) h) : Go M out pc loc stk h := k.st fun w p e R s m args below meth c Q t0 H locs ls n1 n2 C hH hS hl kk => lv_lload_n C.1 C.2.1 hd rfl (hl.2.2 _ _ hx) (kk ls hl)
theorem go_aload {M : MT} {out : Option AV × Hp} {pc : Nat} {loc : List (Option AV)} {stk : List AV} {h : Hp} {i : Nat} {x : Nat} (hd : decode (mB M) pc = .ok (.aload i, 2)) (hx : loc[i]? = some (some (aA x))) (k : Go M out (pc + 2) loc (aA x :: stk) h) : Go M out pc loc stk h := k.st fun w p e R s m args below meth c Q t0 H locs ls n1 n2 C hH hS hl kk => by
  have h1 := hl.2.2 _ _ hx
  have h2 := kk ls hl
  simp only [List.map_cons, cv] at h1 h2 ⊢
  cases hz : ad w x with
  | none =>
    rw [hz] at h1 h2
    exact lv_aloadN C.1 C.2.1 hd h1 h2
  | some a =>
    rw [hz] at h1 h2
    exact lv_aload C.1 C.2.1 hd h1 h2
theorem go_aloadn {M : MT} {out : Option AV × Hp} {pc : Nat} {loc : List (Option AV)} {stk : List AV} {h : Hp} {q : Fin 4} {x : Nat} (hd : decode (mB M) pc = .ok (.aload_n q, 1)) (hx : loc[(q : Nat)]? = some (some (aA x))) (k : Go M out (pc + 1) loc (aA x :: stk) h) : Go M out pc loc stk h := k.st fun w p e R s m args below meth c Q t0 H locs ls n1 n2 C hH hS hl kk => by
  have h1 := hl.2.2 _ _ hx
  have h2 := kk ls hl
  simp only [List.map_cons, cv] at h1 h2 ⊢
  cases hz : ad w x with
  | none =>
    rw [hz] at h1 h2
    exact lv_aload_nN C.1 C.2.1 hd rfl h1 h2
  | some a =>
    rw [hz] at h1 h2
    exact lv_aload_n C.1 C.2.1 hd rfl h1 h2
theorem go_istore {M : MT} {out : Option AV × Hp} {pc : Nat} {loc : List (Option AV)} {stk : List AV} {h : Hp} {i : Nat} {x : Int32} {loc2 : List (Option AV)} (hd : decode (mB M) pc = .ok (.istore i, 2)) (hn : i < mL M) (he : stI loc i (aI x) = loc2) (k : Go M out (pc + 2) loc2 stk h) : Go M out pc loc (aI x :: stk) h := by
  subst he
  exact k.st fun w p e R s m args below meth c Q t0 H locs ls n1 n2 C hH hS hl kk => lv_istore C.1 C.2.1 hd hl.has hn rfl (fun ls2 h2 => kk ls2 (LV.st1 (v := aI x) h2))
theorem go_istoren {M : MT} {out : Option AV × Hp} {pc : Nat} {loc : List (Option AV)} {stk : List AV} {h : Hp} {q : Fin 4} {i : Nat} {x : Int32} {loc2 : List (Option AV)} (hd : decode (mB M) pc = .ok (.istore_n q, 1)) (hi : (q : Nat) = i) (hn : i < mL M) (he : stI loc i (aI x) = loc2) (k : Go M out (pc + 1) loc2 stk h) : Go M out pc loc (aI x :: stk) h := by
  subst he
  exact k.st fun w p e R s m args below meth c Q t0 H locs ls n1 n2 C hH hS hl kk => lv_istore_n C.1 C.2.1 hd hi hl.has hn rfl (fun ls2 h2 => kk ls2 (LV.st1 (v := aI x) h2))
theorem go_lstore {M : MT} {out : Option AV × Hp} {pc : Nat} {loc : List (Option AV)} {stk : List AV} {h : Hp} {i : Nat} {x : Int64} {loc2 : List (Option AV)} (hd : decode (mB M) pc = .ok (.lstore i, 2)) (hn : i + 1 < mL M) (he : stL2 loc i (aL x) = loc2) (k : Go M out (pc + 2) loc2 stk h) : Go M out pc loc (aL x :: stk) h := by
  subst he
  exact k.st fun w p e R s m args below meth c Q t0 H locs ls n1 n2 C hH hS hl kk => lv_lstore C.1 C.2.1 hd hl.has hn rfl (fun ls2 h2 => kk ls2 (LV.st2 (v := aL x) h2))
theorem go_lstoren {M : MT} {out : Option AV × Hp} {pc : Nat} {loc : List (Option AV)} {stk : List AV} {h : Hp} {q : Fin 4} {i : Nat} {x : Int64} {loc2 : List (Option AV)} (hd : decode (mB M) pc = .ok (.lstore_n q, 1)) (hi : (q : Nat) = i) (hn : i + 1 < mL M) (he : stL2 loc i (aL x) = loc2) (k : Go M out (pc + 1) loc2 stk h) : Go M out pc loc (aL x :: stk) h := by
  subst he
  exact k.st fun w p e R s m args below meth c Q t0 H locs ls n1 n2 C hH hS hl kk => lv_lstore_n C.1 C.2.1 hd hi hl.has hn rfl (fun ls2 h2 => kk ls2 (LV.st2 (v := aL x) h2))
theorem go_astore {M : MT} {out : Option AV × Hp} {pc : Nat} {loc : List (Option AV)} {stk : List AV} {h : Hp} {i : Nat} {x : Nat} {loc2 : List (Option AV)} (hd : decode (mB M) pc = .ok (.astore i, 2)) (hn : i < mL M) (he : stI loc i (aA x) = loc2) (k : Go M out (pc + 2) loc2 stk h) : Go M out pc loc (aA x :: stk) h := by
  subst he
  refine k.st fun w p e R s m args below meth c Q t0 H locs ls n1 n2 C hH hS hl kk => ?_
  have key : ∀ ls2 : Array Slot, lv_has ls2 (mL M) ((i, cv w (aA x)) :: (toA w loc).filter (fun q => !(q.1 == i) && !(q.1 + 1 == i && q.2.category == 2))) → W p (wL w) e R s m args below meth c H locs n1 n2 Q (F0 m (pc + 2) ls2 (stk.map (cv w))) := fun ls2 h2 => kk ls2 (LV.st1 (v := aA x) h2)
  simp only [List.map_cons, cv] at key ⊢
  cases hz : ad w x with
  | none =>
    rw [hz] at key
    exact lv_astoreN C.1 C.2.1 hd hl.has hn rfl key
  | some a =>
    rw [hz] at key
    exact lv_astore C.1 C.2.1 hd hl.has hn rfl key
theorem go_astoren {M : MT} {out : Option AV × Hp} {pc : Nat} {loc : List (Option AV)} {stk : List AV} {h : Hp} {q : Fin 4} {i : Nat} {x : Nat} {loc2 : List (Option AV)} (hd : decode (mB M) pc = .ok (.astore_n q, 1)) (hi : (q : Nat) = i) (hn : i < mL M) (he : stI loc i (aA x) = loc2) (k : Go M out (pc + 1) loc2 stk h) : Go M out pc loc (aA x :: stk) h := by
  subst he
  refine k.st fun w p e R s m args below meth c Q t0 H locs ls n1 n2 C hH hS hl kk => ?_
  have key : ∀ ls2 : Array Slot, lv_has ls2 (mL M) ((i, cv w (aA x)) :: (toA w loc).filter (fun q => !(q.1 == i) && !(q.1 + 1 == i && q.2.category == 2))) → W p (wL w) e R s m args below meth c H locs n1 n2 Q (F0 m (pc + 1) ls2 (stk.map (cv w))) := fun ls2 h2 => kk ls2 (LV.st1 (v := aA x) h2)
  simp only [List.map_cons, cv] at key ⊢
  cases hz : ad w x with
  | none =>
    rw [hz] at key
    exact lv_astore_nN C.1 C.2.1 hd hi hl.has hn rfl key
  | some a =>
    rw [hz] at key
    exact lv_astore_n C.1 C.2.1 hd hi hl.has hn rfl key
theorem go_iinc {M : MT} {out : Option AV × Hp} {pc : Nat} {loc : List (Option AV)} {stk : List AV} {h : Hp} {i : Nat} {n : Int} {x v : Int32} {loc2 : List (Option AV)} (hd : decode (mB M) pc = .ok (.iinc i n, 3)) (hx : loc[i]? = some (some (aI x))) (hv : x + Int32.ofInt n = v) (hn : i < mL M) (he : stI loc i (aI v) = loc2) (k : Go M out (pc + 3) loc2 stk h) : Go M out pc loc stk h := by
  subst he
  refine k.st fun w p e R s m args below meth c Q t0 H locs ls n1 n2 C hH hS hl kk => ?_
  obtain ⟨j, hj⟩ := List.getElem?_of_mem (toA_mem (w := w) hx)
  exact lv_iinc C.1 C.2.1 hd hl.has hj hv hn rfl (fun ls2 h2 => kk ls2 (LV.st1 (v := aI v) h2))
theorem go_goto {M : MT} {out : Option AV × Hp} {pc : Nat} {loc : List (Option AV)} {stk : List AV} {h : Hp} {off : Int} {tgt : Nat} (hd : decode (mB M) pc = .ok (.goto off, 3)) (ht : (pc : Int) + off = (tgt : Int)) (k : Go M out tgt loc stk h) : Go M out pc loc stk h := k.st fun w p e R s m args below meth c Q t0 H locs ls n1 n2 C hH hS hl kk => lv_goto C.1 C.2.1 hd ht (kk ls hl)
theorem go_if_eq {M : MT} {out : Option AV × Hp} {pc : Nat} {loc : List (Option AV)} {stk : List AV} {h : Hp} {x : Int32} {off : Int} {tgt : Nat} (hd : decode (mB M) pc = .ok (.ifCond .eq off, 3)) (ht : (pc : Int) + off = (tgt : Int)) (kt : x = 0 → Go M out tgt loc stk h) (kf : ¬ (x = 0) → Go M out (pc + 3) loc stk h) : Go M out pc loc (aI x :: stk) h := by
  by_cases hc : x = 0
  · exact (kt hc).st fun w p e R s m args below meth c Q t0 H locs ls n1 n2 C hH hS hl kk => lv_if_eq C.1 C.2.1 hd ht (fun _ => kk ls hl) (fun q => absurd hc (by first | exact q | simpa using q))
  · exact (kf hc).st fun w p e R s m args below meth c Q t0 H locs ls n1 n2 C hH hS hl kk => lv_if_eq C.1 C.2.1 hd ht (fun q => absurd (by first | exact q | simpa using q) hc) (fun _ => kk ls hl)
theorem go_icmp_eq {M : MT} {out : Option AV × Hp} {pc : Nat} {loc : List (Option AV)} {stk : List AV} {h : Hp} {x y : Int32} {off : Int} {tgt : Nat} (hd : decode (mB M) pc = .ok (.if_icmp .eq off, 3)) (ht : (pc : Int) + off = (tgt : Int)) (kt : x = y → Go M out tgt loc stk h) (kf : ¬ (x = y) → Go M out (pc + 3) loc stk h) : Go M out pc loc (aI y :: aI x :: stk) h := by
  by_cases hc : x = y
  · exact (kt hc).st fun w p e R s m args below meth c Q t0 H locs ls n1 n2 C hH hS hl kk => lv_icmp_eq C.1 C.2.1 hd ht (fun _ => kk ls hl) (fun q => absurd hc (by first | exact q | simpa using q))
  · exact (kf hc).st fun w p e R s m args below meth c Q t0 H locs ls n1 n2 C hH hS hl kk => lv_icmp_eq C.1 C.2.1 hd ht (fun q => absurd (by first | exact q | simpa using q) hc) (fun _ => kk ls hl)
theorem go_if_ne {M : MT} {out : Option AV × Hp} {pc : Nat} {loc : List (Option AV)} {stk : List AV} {h : Hp} {x : Int32} {off : Int} {tgt : Nat} (hd : decode (mB M) pc = .ok (.ifCond .ne off, 3)) (ht : (pc : Int) + off = (tgt : Int)) (kt : ¬ x = 0 → Go M out tgt loc stk h) (kf : ¬ (¬ x = 0) → Go M out (pc + 3) loc stk h) : Go M out pc loc (aI x :: stk) h := by
  by_cases hc : ¬ x = 0
  · exact (kt hc).st fun w p e R s m args below meth c Q t0 H locs ls n1 n2 C hH hS hl kk => lv_if_ne C.1 C.2.1 hd ht (fun _ => kk ls hl) (fun q => absurd hc (by first | exact q | simpa using q))
  · exact (kf hc).st fun w p e R s m args below meth c Q t0 H locs ls n1 n2 C hH hS hl kk => lv_if_ne C.1 C.2.1 hd ht (fun q => absurd (by first | exact q | simpa using q) hc) (fun _ => kk ls hl)
theorem go_icmp_ne {M : MT} {out : Option AV × Hp} {pc : Nat} {loc : List (Option AV)} {stk : List AV} {h : Hp} {x y : Int32} {off : Int} {tgt : Nat} (hd : decode (mB M) pc = .ok (.if_icmp .ne off, 3)) (ht : (pc : Int) + off = (tgt : Int)) (kt : ¬ x = y → Go M out tgt loc stk h) (kf : ¬ (¬ x = y) → Go M out (pc + 3) loc stk h) : Go M out pc loc (aI y :: aI x :: stk) h := by
  by_cases hc : ¬ x = y
  · exact (kt hc).st fun w p e R s m args below meth c Q t0 H locs ls n1 n2 C hH hS hl kk => lv_icmp_ne C.1 C.2.1 hd ht (fun _ => kk ls hl) (fun q => absurd hc (by first | exact q | simpa using q))
  · exact (kf hc).st fun w p e R s m args below meth c Q t0 H locs ls n1 n2 C hH hS hl kk => lv_icmp_ne C.1 C.2.1 hd ht (fun q => absurd (by first | exact q | simpa using q) hc) (fun _ => kk ls hl)
theorem go_if_lt {M : MT} {out : Option AV × Hp} {pc : Nat} {loc : List (Option AV)} {stk : List AV} {h : Hp} {x : Int32} {off : Int} {tgt : Nat} (hd : decode (mB M) pc = .ok (.ifCond .lt off, 3)) (ht : (pc : Int) + off = (tgt : Int)) (kt : x < 0 → Go M out tgt loc stk h) (kf : ¬ (x < 0) → Go M out (pc + 3) loc stk h) : Go M out pc loc (aI x :: stk) h := by
  by_cases hc : x < 0
  · exact (kt hc).st fun w p e R s m args below meth c Q t0 H locs ls n1 n2 C hH hS hl kk => lv_if_lt C.1 C.2.1 hd ht (fun _ => kk ls hl) (fun q => absurd hc (by first | exact q | simpa using q))
  · exact (kf hc).st fun w p e R s m args below meth c Q t0 H locs ls n1 n2 C hH hS hl kk => lv_if_lt C.1 C.2.1 hd ht (fun q => absurd (by first | exact q | simpa using q) hc) (fun _ => kk ls hl)
theorem go_icmp_lt {M : MT} {out : Option AV × Hp} {pc : Nat} {loc : List (Option AV)} {stk : List AV} {h : Hp} {x y : Int32} {off : Int} {tgt : Nat} (hd : decode (mB M) pc = .ok (.if_icmp .lt off, 3)) (ht : (pc : Int) + off = (tgt : Int)) (kt : x < y → Go M out tgt loc stk h) (kf : ¬ (x < y) → Go M out (pc + 3) loc stk h) : Go M out pc loc (aI y :: aI x :: stk) h := by
  by_cases hc : x < y
  · exact (kt hc).st fun w p e R s m args below meth c Q t0 H locs ls n1 n2 C hH hS hl kk => lv_icmp_lt C.1 C.2.1 hd ht (fun _ => kk ls hl) (fun q => absurd hc (by first | exact q | simpa using q))
  · exact (kf hc).st fun w p e R s m args below meth c Q t0 H locs ls n1 n2 C hH hS hl kk => lv_icmp_lt C.1 C.2.1 hd ht (fun q => absurd (by first | exact q | simpa using q) hc) (fun _ => kk ls hl)
theorem go_if_ge {M : MT} {out : Option AV × Hp} {pc : Nat} {loc : List (Option AV)} {stk : List AV} {h : Hp} {x : Int32} {off : Int} {tgt : Nat} (hd : decode (mB M) pc = .ok (.ifCond .ge off, 3)) (ht : (pc : Int) + off = (tgt : Int)) (kt : 0 ≤ x → Go M out tgt loc stk h) (kf : ¬ (0 ≤ x) → Go M out (pc + 3) loc stk h) : Go M out pc loc (aI x :: stk) h := by
  by_cases hc : 0 ≤ x
  · exact (kt hc).st fun w p e R s m args below meth c Q t0 H locs ls n1 n2 C hH hS hl kk => lv_if_ge C.1 C.2.1 hd ht (fun _ => kk ls hl) (fun q => absurd hc (by first | exact q | simpa using q))
  · exact (kf hc).st fun w p e R s m args below meth c Q t0 H locs ls n1 n2 C hH hS hl kk => lv_if_ge C.1 C.2.1 hd ht (fun q => absurd (by first | exact q | simpa using q) hc) (fun _ => kk ls hl)
theorem go_icmp_ge {M : MT} {out : Option AV × Hp} {pc : Nat} {loc : List (Option AV)} {stk : List AV} {h : Hp} {x y : Int32} {off : Int} {tgt : Nat} (hd : decode (mB M) pc = .ok (.if_icmp .ge off, 3)) (ht : (pc : Int) + off = (tgt : Int)) (kt : y ≤ x → Go M out tgt loc stk h) (kf : ¬ (y ≤ x) → Go M out (pc + 3) loc stk h) : Go M out pc loc (aI y :: aI x :: stk) h := by
  by_cases hc : y ≤ x
  · exact (kt hc).st fun w p e R s m args below meth c Q t0 H locs ls n1 n2 C hH hS hl kk => lv_icmp_ge C.1 C.2.1 hd ht (fun _ => kk ls hl) (fun q => absurd hc (by first | exact q | simpa using q))
  · exact (kf hc).st fun w p e R s m args below meth c Q t0 H locs ls n1 n2 C hH hS hl kk => lv_icmp_ge C.1 C.2.1 hd ht (fun q => absurd (by first | exact q | simpa using q) hc) (fun _ => kk ls hl)
theorem go_if_gt {M : MT} {out : Option AV × Hp} {pc : Nat} {loc : List (Option AV)} {stk : List AV} {h : Hp} {x : Int32} {off : Int} {tgt : Nat} (hd : decode (mB M) pc = .ok (.ifCond .gt off, 3)) (ht : (pc : Int) + off = (tgt : Int)) (kt : 0 < x → Go M out tgt loc stk h) (kf : ¬ (0 < x) → Go M out (pc + 3) loc stk h) : Go M out pc loc (aI x :: stk) h := by
  by_cases hc : 0 < x
  · exact (kt hc).st fun w p e R s m args below meth c Q t0 H locs ls n1 n2 C hH hS hl kk => lv_if_gt C.1 C.2.1 hd ht (fun _ => kk ls hl) (fun q => absurd hc (by first | exact q | simpa using q))
  · exact (kf hc).st fun w p e R s m args below meth c Q t0 H locs ls n1 n2 C hH hS hl kk => lv_if_gt C.1 C.2.1 hd ht (fun q => absurd (by first | exact q | simpa using q) hc) (fun _ => kk ls hl)
theorem go_icmp_gt {M : MT} {out : Option AV × Hp} {pc : Nat} {loc : List (Option AV)} {stk : List AV} {h : Hp} {x y : Int32} {off : Int} {tgt : Nat} (hd : decode (mB M) pc = .ok (.if_icmp .gt off, 3)) (ht : (pc : Int) + off = (tgt : Int)) (kt : y < x → Go M out tgt loc stk h) (kf : ¬ (y < x) → Go M out (pc + 3) loc stk h) : Go M out pc loc (aI y :: aI x :: stk) h := by
  by_cases hc : y < x
  · exact (kt hc).st fun w p e R s m args below meth c Q t0 H locs ls n1 n2 C hH hS hl kk => lv_icmp_gt C.1 C.2.1 hd ht (fun _ => kk ls hl) (fun q => absurd hc (by first | exact q | simpa using q))
  · exact (kf hc).st fun w p e R s m args below meth c Q t0 H locs ls n1 n2 C hH hS hl kk => lv_icmp_gt C.1 C.2.1 hd ht (fun q => absurd (by first | exact q | simpa using q) hc) (fun _ => kk ls hl)
theorem go_if_le {M : MT} {out : Option AV × Hp} {pc : Nat} {loc : List (Option AV)} {stk : List AV} {h : Hp} {x : Int32} {off : Int} {tgt : Nat} (hd : decode (mB M) pc = .ok (.ifCond .le off, 3)) (ht : (pc : Int) + off = (tgt : Int)) (kt : x ≤ 0 → Go M out tgt loc stk h) (kf : ¬ (x ≤ 0) → Go M out (pc + 3) loc stk h) : Go M out pc loc (aI x :: stk) h := by
  by_cases hc : x ≤ 0
  · exact (kt hc).st fun w p e R s m args below meth c Q t0 H locs ls n1 n2 C hH hS hl kk => lv_if_le C.1 C.2.1 hd ht (fun _ => kk ls hl) (fun q => absurd hc (by first | exact q | simpa using q))
  · exact (kf hc).st fun w p e R s m args below meth c Q t0 H locs ls n1 n2 C hH hS hl kk => lv_if_le C.1 C.2.1 hd ht (fun q => absurd (by first | exact q | simpa using q) hc) (fun _ => kk ls hl)
theorem go_icmp_le {M : MT} {out : Option AV × Hp} {pc : Nat} {loc : List (Option AV)} {stk : List AV} {h : Hp} {x y : Int32} {off : Int} {tgt : Nat} (hd : decode (mB M) pc = .ok (.if_icmp .le off, 3)) (ht : (pc : Int) + off = (tgt : Int)) (kt : x ≤ y → Go M out tgt loc stk h) (kf : ¬ (x ≤ y) → Go M out (pc + 3) loc stk h) : Go M out pc loc (aI y :: aI x :: stk) h := by
  by_cases hc : x ≤ y
  · exact (kt hc).st fun w p e R s m args below meth c Q t0 H locs ls n1 n2 C hH hS hl kk => lv_icmp_le C.1 C.2.1 hd ht (fun _ => kk ls hl) (fun q => absurd hc (by first | exact q | simpa using q))
  · exact (kf hc).st fun w p e R s m args below meth c Q t0 H locs ls n1 n2 C hH hS hl kk => lv_icmp_le C.1 C.2.1 hd ht (fun q => absurd (by first | exact q | simpa using q) hc) (fun _ => kk ls hl)
theorem go_ifnull {M : MT} {out : Option AV × Hp} {pc : Nat} {loc : List (Option AV)} {stk : List AV} {h : Hp} {x : Nat} {off : Int} {tgt : Nat} (hd : decode (mB M) pc = .ok (.ifnull off, 3)) (ht : (pc : Int) + off = (tgt : Int)) (hx : x < 999999) (kt : x = 0 → Go M out tgt loc stk h) (kf : ¬ x = 0 → Go M out (pc + 3) loc stk h) : Go M out pc loc (aA x :: stk) h := by
  by_cases hc : x = 0
  · subst hc
    exact (kt rfl).st fun w p e R s m args below meth c Q t0 H locs ls n1 n2 C hH hS hl kk => lv_ifnullN C.1 C.2.1 hd ht (kk ls hl)
  · refine (kf hc).st fun w p e R s m args below meth c Q t0 H locs ls n1 n2 C hH hS hl kk => ?_
    obtain ⟨a, ha⟩ := ad_some (w := w) hc hx
    have h2 := kk ls hl
    simp only [List.map_cons, cv, ha]
    exact lv_ifnull C.1 C.2.1 hd h2
theorem go_ifnonnull {M : MT} {out : Option AV × Hp} {pc : Nat} {loc : List (Option AV)} {stk : List AV} {h : Hp} {x : Nat} {off : Int} {tgt : Nat} (hd : decode (mB M) pc = .ok (.ifnonnull off, 3)) (ht : (pc : Int) + off = (tgt : Int)) (hx : x < 999999) (kt : ¬ x = 0 → Go M out tgt loc stk h) (kf : x = 0 → Go M out (pc + 3) loc stk h) : Go M out pc loc (aA x :: stk) h := by
  by_cases hc : x = 0
  · subst hc
    exact (kf rfl).st fun w p e R s m args below meth c Q t0 H locs ls n1 n2 C hH hS hl kk => lv_ifnonnullN C.1 C.2.1 hd (kk ls hl)
  · refine (kt hc).st fun w p e R s m args below meth c Q t0 H locs ls n1 n2 C hH hS hl kk => ?_
    obtain ⟨a, ha⟩ := ad_some (w := w) hc hx
    have h2 := kk ls hl
    simp only [List.map_cons, cv, ha]
    exact lv_ifnonnull C.1 C.2.1 hd ht h2
theorem go_tableOut {M : MT} {out : Option AV × Hp} {pc : Nat} {loc : List (Option AV)} {stk : List AV} {h : Hp} {dflt lo hi : Int} {offs : Array Int} {len : Nat} {x : Int32} {tgt : Nat} (hd : decode (mB M) pc = .ok (.tableswitch dflt lo hi offs, len)) (hx : x.toInt < lo ∨ hi < x.toInt) (ht : (pc : Int) + dflt = (tgt : Int)) (k : Go M out tgt loc stk h) : Go M out pc loc (aI x :: stk) h := k.st fun w p e R s m args below meth c Q t0 H locs ls n1 n2 C hH hS hl kk => lv_tableOut C.1 C.2.1 hd hx ht (kk ls hl)
theorem go_tableIn {M : MT} {out : Option AV × Hp} {pc : Nat} {loc : List (Option AV)} {stk : List AV} {h : Hp} {dflt lo hi : Int} {offs : Array Int} {len : Nat} {x : Int32} {off : Int} {tgt : Nat} (hd : decode (mB M) pc = .ok (.tableswitch dflt lo hi offs, len)) (h1 : ¬ x.toInt < lo) (h2 : ¬ hi < x.toInt) (ho : offs[(x.toInt - lo).toNat]? = some off) (ht : (pc : Int) + off = (tgt : Int)) (k : Go M out tgt loc stk h) : Go M out pc loc (aI x :: stk) h := k.st fun w p e R s m args below meth c Q t0 H locs ls n1 n2 C hH hS hl kk => lv_tableIn C.1 C.2.1 hd h1 h2 ho ht (kk ls hl)
theorem go_lookup {M : MT} {out : Option AV × Hp} {pc : Nat} {loc : List (Option AV)} {stk : List AV} {h : Hp} {dflt : Int} {ps : Array (Int × Int)} {len : Nat} {x : Int32} {off : Int} {tgt : Nat} (hd : decode (mB M) pc = .ok (.lookupswitch dflt ps, len)) (hp : (ps.toList.zip (ps.toList.drop 1)).all (fun (a, next) => a.1 < next.1) = true) (ho : Op.lookupswitch.offset ps.toList dflt x.toInt = off) (ht : (pc : Int) + off = (tgt : Int)) (k : Go M out tgt loc stk h) : Go M out pc loc (aI x :: stk) h := k.st fun w p e R s m args below meth c Q t0 H locs ls n1 n2 C hH hS hl kk => lv_lookup C.1 C.2.1 hd hp ho ht (kk ls hl)
