/-- the model's words -/
def FUEL : Nat := 4294967296
def loopK {σ R : Type} : Nat → ((σ → Option R) → σ → Option R) → σ → Option R
  | 0, _, _ => none
  | n + 1, body, s => body (loopK n body) s
def gfI (h : Hp) (o t k : Nat) : Option Int32 := if hTag h o = t then some (hI h o k) else none
def gfJ (h : Hp) (o t k : Nat) : Option Int64 := if hTag h o = t then some (hJ h o k) else none
def gfR (h : Hp) (o t k : Nat) : Option Nat := if hTag h o = t then some (hR h o k) else none
def pfI (h : Hp) (o t k : Nat) (x : Int32) : Option Hp := if hTag h o = t then some (setI h o k x) else none
def pfJ (h : Hp) (o t k : Nat) (x : Int64) : Option Hp := if hTag h o = t then some (setJ h o k x) else none
def pfR (h : Hp) (o t k : Nat) (x : Nat) : Option Hp := if hTag h o = t then some (setR h o k x) else none
def alI (h : Hp) (a : Nat) (i : Int32) : Option Int32 := if hTag h a = 20 ∧ inB i (hLen h a) = true then some (hI h a i.toNatClampNeg) else none
def alB (h : Hp) (a : Nat) (i : Int32) : Option Int32 := if hTag h a = 21 ∧ inB i (hLen h a) = true then some (hI h a i.toNatClampNeg) else none
def alZ (h : Hp) (a : Nat) (i : Int32) : Option Int32 := if hTag h a = 23 ∧ inB i (hLen h a) = true then some (hI h a i.toNatClampNeg) else none
def alJ (h : Hp) (a : Nat) (i : Int32) : Option Int64 := if hTag h a = 22 ∧ inB i (hLen h a) = true then some (hJ h a i.toNatClampNeg) else none
def alR (h : Hp) (a t : Nat) (i : Int32) : Option Nat := if hTag h a = t ∧ inB i (hLen h a) = true then some (hR h a i.toNatClampNeg) else none
def alX (h : Hp) (i : Int32) : Option Int32 := if inB i (hLen h 1) = true then some (hI h 1 i.toNatClampNeg) else none
def asI (h : Hp) (a : Nat) (i x : Int32) : Option Hp := if hTag h a = 20 ∧ inB i (hLen h a) = true then some (setI h a i.toNatClampNeg x) else none
def asB (h : Hp) (a : Nat) (i x : Int32) : Option Hp := if hTag h a = 21 ∧ inB i (hLen h a) = true then some (setI h a i.toNatClampNeg (vp_nar .byte x)) else none
def asZ (h : Hp) (a : Nat) (i x : Int32) : Option Hp := if hTag h a = 23 ∧ inB i (hLen h a) = true then some (setI h a i.toNatClampNeg (vp_nar .boolean x)) else none
def asJ (h : Hp) (a : Nat) (i : Int32) (x : Int64) : Option Hp := if hTag h a = 22 ∧ inB i (hLen h a) = true then some (setJ h a i.toNatClampNeg x) else none
def asR (h : Hp) (a t : Nat) (i : Int32) (v u : Nat) : Option Hp := if hTag h a = t ∧ hTag h v = u ∧ inB i (hLen h a) = true then some (setR h a i.toNatClampNeg v) else none
def alen (h : Hp) (a t : Nat) : Option Int32 := if hTag h a = t then some (Int32.ofNat (hLen h a)) else none
def rc {α : Type} (h : Hp) (o t : Nat) (m : Option α) : Option α := if hTag h o = t then m else none
def nw (h : Hp) (t n : Nat) : Option Hp := if hTop h + 1 < 900000 then some (alloc h t n) else none
def dvI (x y : Int32) : Option Int32 := if y = 0 then none else some (x / y)
def rmI (x y : Int32) : Option Int32 := if y = 0 then none else some (iremF x y)
def zb (x : Int32) : Option Int32 := if x &&& 1 = x then some x else none
def nz (x : Nat) : Option Nat := if x < 999999 then some x else none
def cpI (h : Hp) (t a b : Nat) (sp dp n : Int32) : Option Hp := if hTag h a = t ∧ hTag h b = t ∧ cpB sp dp n (hLen h a) (hLen h b) = true then some (setIA h b (va_cpy (hI h a) (hI h b) sp.toNatClampNeg dp.toNatClampNeg n.toNatClampNeg)) else none
def cpJ (h : Hp) (a b : Nat) (sp dp n : Int32) : Option Hp := if hTag h a = 22 ∧ hTag h b = 22 ∧ cpB sp dp n (hLen h a) (hLen h b) = true then some (setJA h b (va_cpy (hJ h a) (hJ h b) sp.toNatClampNeg dp.toNatClampNeg n.toNatClampNeg)) else none
def isTx (n : Nat) : Bool := decide (1000000 ≤ n) && decide (n % 2 = 0) && decide ((n - 1000000) / 2 < stL.length)
def txI (n : Nat) : Nat := (n - 1000000) / 2
def strLen (n : Nat) : Option Int32 := if isTx n = true then some (Int32.ofNat (stLen.getD (txI n) 0)) else none
def strCh (n : Nat) (j : Int32) : Option Int32 := if isTx n = true ∧ inB j (stLen.getD (txI n) 0) = true then some ((stByt.getD (txI n) []).getD j.toNatClampNeg 0) else none
theorem ite_some {α : Type} {c : Prop} {_ : Decidable c} {a x : α} (h : (if c then some a else none) = some x) : c ∧ a = x := by
  by_cases hc : c
  · rw [if_pos hc] at h
    exact ⟨hc, Option.some.inj h⟩
  · rw [if_neg hc] at h
    cases h
theorem bind_some {α β : Type} {m : Option α} {f : α → Option β} {y : β} (h : m.bind f = some y) : ∃ x, m = some x ∧ f x = some y := by
  cases m with
  | none => cases h
  | some x => exact ⟨x, rfl, h⟩
theorem txI_ok {n : Nat} (h : isTx n = true) : txI n < stL.length ∧ tN (txI n) = n := by
  unfold isTx at h
  simp only [Bool.and_eq_true, decide_eq_true_eq] at h
  unfold txI tN
  omega
theorem go_loop {σ Rr : Type} {M : MT} {out : Option AV × Hp} {hd : Nat} {body : (σ → Option Rr) → σ → Option Rr} {y : Rr} (L : σ → List (Option AV)) (hf : σ → Hp) (step : ∀ (k : σ → Option Rr) (s : σ), (∀ s' : σ, k s' = some y → Go M out hd (L s') [] (hf s')) → body k s = some y → Go M out hd (L s) [] (hf s)) : ∀ (n : Nat) (s : σ), loopK n body s = some y → Go M out hd (L s) [] (hf s) := by
  intro n
  induction n with
  | zero => intro s h; cases h
  | succ n ih => intro s h; exact step (loopK n body) s (fun s' h' => ih s' h') h
section GM
variable {Rr : Type} {M : MT} {out : Option AV × Hp} {pc : Nat} {loc : List (Option AV)} {stk : List AV} {h : Hp} {y : Rr}
theorem gm_getI {f : Int32 → Option Rr} {idx t k o : Nat} {ft : FieldType} {fin : Nat} (hF : FdOk (mY M).cls idx t k 0 ft fin) (hd : decode (mB M) pc = .ok (.getfield idx, 3)) (H : (gfI h o t k).bind f = some y) (kk : ∀ x, f x = some y → Go M out (pc + 3) loc (aI x :: stk) h) : Go M out pc loc (aA o :: stk) h := by
  obtain ⟨x, e, H⟩ := bind_some H
  obtain ⟨ht, rfl⟩ := ite_some e
  exact go_getI hF hd ht (kk _ H)
theorem gm_getJ {f : Int64 → Option Rr} {idx t k o : Nat} {ft : FieldType} {fin : Nat} (hF : FdOk (mY M).cls idx t k 1 ft fin) (hd : decode (mB M) pc = .ok (.getfield idx, 3)) (H : (gfJ h o t k).bind f = some y) (kk : ∀ x, f x = some y → Go M out (pc + 3) loc (aL x :: stk) h) : Go M out pc loc (aA o :: stk) h := by
  obtain ⟨x, e, H⟩ := bind_some H
  obtain ⟨ht, rfl⟩ := ite_some e
  exact go_getJ hF hd ht (kk _ H)
theorem gm_getR {f : Nat → Option Rr} {idx t k o : Nat} {ft : FieldType} {fin : Nat} (hF : FdOk (mY M).cls idx t k 2 ft fin) (hd : decode (mB M) pc = .ok (.getfield idx, 3)) (H : (gfR h o t k).bind f = some y) (kk : ∀ x, f x = some y → Go M out (pc + 3) loc (aA x :: stk) h) : Go M out pc loc (aA o :: stk) h := by
  obtain ⟨x, e, H⟩ := bind_some H
  obtain ⟨ht, rfl⟩ := ite_some e
  exact go_getR hF hd ht (kk _ H)
theorem gm_putI {f : Hp → Option Rr} {idx t k o : Nat} {fin : Nat} {x : Int32} (hF : FdOk (mY M).cls idx t k 0 .int fin) (hfin : fin = 0 ∨ (fin = 1 ∧ (mY M).name = "<init>")) (hd : decode (mB M) pc = .ok (.putfield idx, 3)) (H : (pfI h o t k x).bind f = some y) (kk : ∀ h', f h' = some y → Go M out (pc + 3) loc stk h') : Go M out pc loc (aI x :: aA o :: stk) h := by
  obtain ⟨x, e, H⟩ := bind_some H
  obtain ⟨ht, rfl⟩ := ite_some e
  exact go_putI hF hfin hd ht (kk _ H)
theorem gm_putZ {f : Hp → Option Rr} {idx t k o : Nat} {fin : Nat} {x : Int32} (hF : FdOk (mY M).cls idx t k 0 .boolean fin) (hfin : fin = 0 ∨ (fin = 1 ∧ (mY M).name = "<init>")) (hx : x &&& 1 = x ∧ (x == 0 || x == 1) = true) (hd : decode (mB M) pc = .ok (.putfield idx, 3)) (H : (pfI h o t k x).bind f = some y) (kk : ∀ h', f h' = some y → Go M out (pc + 3) loc stk h') : Go M out pc loc (aI x :: aA o :: stk) h := by
  obtain ⟨x, e, H⟩ := bind_some H
  obtain ⟨ht, rfl⟩ := ite_some e
  exact go_putZ hF hfin hx hd ht (kk _ H)
theorem gm_putJ {f : Hp → Option Rr} {idx t k o : Nat} {fin : Nat} {x : Int64} (hF : FdOk (mY M).cls idx t k 1 .long fin) (hfin : fin = 0 ∨ (fin = 1 ∧ (mY M).name = "<init>")) (hd : decode (mB M) pc = .ok (.putfield idx, 3)) (H : (pfJ h o t k x).bind f = some y) (kk : ∀ h', f h' = some y → Go M out (pc + 3) loc stk h') : Go M out pc loc (aL x :: aA o :: stk) h := by
  obtain ⟨x, e, H⟩ := bind_some H
  obtain ⟨ht, rfl⟩ := ite_some e
  exact go_putJ hF hfin hd ht (kk _ H)
theorem gm_putR {f : Hp → Option Rr} {idx t k o : Nat} {ft : FieldType} {fin : Nat} {x : Nat} (hF : FdOk (mY M).cls idx t k 2 ft fin) (hfin : fin = 0 ∨ (fin = 1 ∧ (mY M).name = "<init>")) (hft : (∃ n, ft = .object n) ∨ ∃ n, ft = .array n) (hd : decode (mB M) pc = .ok (.putfield idx, 3)) (H : (pfR h o t k x).bind f = some y) (kk : ∀ h', f h' = some y → Go M out (pc + 3) loc stk h') : Go M out pc loc (aA x :: aA o :: stk) h := by
  obtain ⟨x, e, H⟩ := bind_some H
  obtain ⟨ht, rfl⟩ := ite_some e
  exact go_putR hF hfin hft hd ht (kk _ H)
theorem gm_iald {f : Int32 → Option Rr} {o : Nat} {i : Int32} (hd : decode (mB M) pc = .ok (.iaload, 1)) (H : (alI h o i).bind f = some y) (kk : ∀ x, f x = some y → Go M out (pc + 1) loc (aI x :: stk) h) : Go M out pc loc (aI i :: aA o :: stk) h := by
  obtain ⟨x, e, H⟩ := bind_some H
  obtain ⟨ht, rfl⟩ := ite_some e
  exact go_iald hd ht.1 ht.2 (kk _ H)
theorem gm_bald {f : Int32 → Option Rr} {o : Nat} {i : Int32} (hd : decode (mB M) pc = .ok (.baload, 1)) (H : (alB h o i).bind f = some y) (kk : ∀ x, f x = some y → Go M out (pc + 1) loc (aI x :: stk) h) : Go M out pc loc (aI i :: aA o :: stk) h := by
  obtain ⟨x, e, H⟩ := bind_some H
  obtain ⟨ht, rfl⟩ := ite_some e
  exact go_bald hd ht.1 ht.2 (kk _ H)
theorem gm_zald {f : Int32 → Option Rr} {o : Nat} {i : Int32} (hd : decode (mB M) pc = .ok (.baload, 1)) (H : (alZ h o i).bind f = some y) (kk : ∀ x, f x = some y → Go M out (pc + 1) loc (aI x :: stk) h) : Go M out pc loc (aI i :: aA o :: stk) h := by
  obtain ⟨x, e, H⟩ := bind_some H
  obtain ⟨ht, rfl⟩ := ite_some e
  exact go_zald hd ht.1 ht.2 (kk _ H)
theorem gm_lald {f : Int64 → Option Rr} {o : Nat} {i : Int32} (hd : decode (mB M) pc = .ok (.laload, 1)) (H : (alJ h o i).bind f = some y) (kk : ∀ x, f x = some y → Go M out (pc + 1) loc (aL x :: stk) h) : Go M out pc loc (aI i :: aA o :: stk) h := by
  obtain ⟨x, e, H⟩ := bind_some H
  obtain ⟨ht, rfl⟩ := ite_some e
  exact go_lald hd ht.1 ht.2 (kk _ H)
theorem gm_aald {f : Nat → Option Rr} {o t : Nat} {i : Int32} (h24 : 24 ≤ t ∧ t < 24 + aoL.length) (hd : decode (mB M) pc = .ok (.aaload, 1)) (H : (alR h o t i).bind f = some y) (kk : ∀ x, f x = some y → Go M out (pc + 1) loc (aA x :: stk) h) : Go M out pc loc (aI i :: aA o :: stk) h := by
  obtain ⟨x, e, H⟩ := bind_some H
  obtain ⟨ht, rfl⟩ := ite_some e
  exact go_aald h24 hd ht.1 ht.2 (kk _ H)
theorem gm_xald {f : Int32 → Option Rr} {i : Int32} (hd : decode (mB M) pc = .ok (.iaload, 1)) (H : (alX h i).bind f = some y) (kk : ∀ x, f x = some y → Go M out (pc + 1) loc (aI x :: stk) h) : Go M out pc loc (aI i :: aA 1 :: stk) h := by
  obtain ⟨x, e, H⟩ := bind_some H
  obtain ⟨ht, rfl⟩ := ite_some e
  exact go_xald hd ht (kk _ H)
theorem gm_iast {f : Hp → Option Rr} {o : Nat} {i x : Int32} (hd : decode (mB M) pc = .ok (.iastore, 1)) (H : (asI h o i x).bind f = some y) (kk : ∀ h', f h' = some y → Go M out (pc + 1) loc stk h') : Go M out pc loc (aI x :: aI i :: aA o :: stk) h := by
  obtain ⟨x, e, H⟩ := bind_some H
  obtain ⟨ht, rfl⟩ := ite_some e
  exact go_iast hd ht.1 ht.2 (kk _ H)
theorem gm_bast {f : Hp → Option Rr} {o : Nat} {i x : Int32} (hd : decode (mB M) pc = .ok (.bastore, 1)) (H : (asB h o i x).bind f = some y) (kk : ∀ h', f h' = some y → Go M out (pc + 1) loc stk h') : Go M out pc loc (aI x :: aI i :: aA o :: stk) h := by
  obtain ⟨x, e, H⟩ := bind_some H
  obtain ⟨ht, rfl⟩ := ite_some e
  exact go_bast hd ht.1 ht.2 (kk _ H)
theorem gm_zast {f : Hp → Option Rr} {o : Nat} {i x : Int32} (hd : decode (mB M) pc = .ok (.bastore, 1)) (H : (asZ h o i x).bind f = some y) (kk : ∀ h', f h' = some y → Go M out (pc + 1) loc stk h') : Go M out pc loc (aI x :: aI i :: aA o :: stk) h := by
  obtain ⟨x, e, H⟩ := bind_some H
  obtain ⟨ht, rfl⟩ := ite_some e
  exact go_zast hd ht.1 ht.2 (kk _ H)
theorem gm_last {f : Hp → Option Rr} {o : Nat} {i : Int32} {x : Int64} (hd : decode (mB M) pc = .ok (.lastore, 1)) (H : (asJ h o i x).bind f = some y) (kk : ∀ h', f h' = some y → Go M out (pc + 1) loc stk h') : Go M out pc loc (aL x :: aI i :: aA o :: stk) h := by
  obtain ⟨x, e, H⟩ := bind_some H
  obtain ⟨ht, rfl⟩ := ite_some e
  exact go_last hd ht.1 ht.2 (kk _ H)
theorem gm_aast {f : Hp → Option Rr} {o t u v : Nat} {i : Int32} {C : String} {T : u_T} {N : Nat} {ty : Nat → FieldType} (h24 : 24 ≤ t ∧ t < 24 + aoL.length) (hC : ClOk u C T N ty) (hao : aoL.getD (t - 24) "" = C) (hd : decode (mB M) pc = .ok (.aastore, 1)) (H : (asR h o t i v u).bind f = some y) (kk : ∀ h', f h' = some y → Go M out (pc + 1) loc stk h') : Go M out pc loc (aA v :: aI i :: aA o :: stk) h := by
  obtain ⟨x, e, H⟩ := bind_some H
  obtain ⟨ht, rfl⟩ := ite_some e
  exact go_aast h24 hC hao hd ht.1 ht.2.1 ht.2.2 (kk _ H)
theorem gm_alen {f : Int32 → Option Rr} {o t : Nat} (h20 : 20 ≤ t ∧ t < 24 + aoL.length) (hd : decode (mB M) pc = .ok (.arraylength, 1)) (H : (alen h o t).bind f = some y) (kk : ∀ x, f x = some y → Go M out (pc + 1) loc (aI x :: stk) h) : Go M out pc loc (aA o :: stk) h := by
  obtain ⟨x, e, H⟩ := bind_some H
  obtain ⟨ht, rfl⟩ := ite_some e
  exact go_alen h20 hd ht (kk _ H)
theorem gm_idiv {f : Int32 → Option Rr} {a b : Int32} (hd : decode (mB M) pc = .ok (.idiv, 1)) (H : (dvI a b).bind f = some y) (kk : ∀ x, f x = some y → Go M out (pc + 1) loc (aI x :: stk) h) : Go M out pc loc (aI b :: aI a :: stk) h := by
  obtain ⟨x, e, H⟩ := bind_some H
  unfold dvI at e
  by_cases hb : b = 0
  · rw [if_pos hb] at e; cases e
  · rw [if_neg hb] at e
    obtain rfl := Option.some.inj e
    exact go_idiv hd hb (kk _ H)
theorem gm_irem {f : Int32 → Option Rr} {a b : Int32} (hd : decode (mB M) pc = .ok (.irem, 1)) (H : (rmI a b).bind f = some y) (kk : ∀ x, f x = some y → Go M out (pc + 1) loc (aI x :: stk) h) : Go M out pc loc (aI b :: aI a :: stk) h := by
  obtain ⟨x, e, H⟩ := bind_some H
  unfold rmI at e
  by_cases hb : b = 0
  · rw [if_pos hb] at e; cases e
  · rw [if_neg hb] at e
    obtain rfl := Option.some.inj e
    exact go_irem hd hb (kk _ H)
theorem gm_new {f : Hp → Option Rr} {idx t : Nat} {C : String} {T : u_T} {N : Nat} {ty : Nat → FieldType} (hC : ClOk t C T N ty) (hdv : ∀ j, j < N → defaultValue (ty j) = if fk t j = 1 then .long 0 else if fk t j = 0 then .int 0 else .null) (hlink : Cond.classLink (mY M).cls idx C ∈ GW) (hd : decode (mB M) pc = .ok (.new idx, 3)) (H : (nw h t N).bind f = some y) (kk : ∀ h', f h' = some y → Go M out (pc + 3) loc (aA (hTop h) :: stk) h') : Go M out pc loc stk h := by
  obtain ⟨x, e, H⟩ := bind_some H
  obtain ⟨ht, rfl⟩ := ite_some e
  exact go_new hC hdv hlink hd ht (kk _ H)
theorem gm_newarr {f : Hp → Option Rr} {t : Nat} {atype : ArrayType} {n : Int32} {N : Nat} (hty : newarray.typeOf atype = aty t) (ht : t = 20 ∨ t = 21 ∨ t = 22 ∨ t = 23) (hac : Cond.arrayClass (newarray.typeOf atype) ∈ GW) (hd : decode (mB M) pc = .ok (.newarray atype, 2)) (hn : ¬ n < 0) (hN : n.toNatClampNeg = N) (hN9 : N ≤ 1000000) (H : (nw h t N).bind f = some y) (kk : ∀ h', f h' = some y → Go M out (pc + 2) loc (aA (hTop h) :: stk) h') : Go M out pc loc (aI n :: stk) h := by
  obtain ⟨x, e, H⟩ := bind_some H
  obtain ⟨h9, rfl⟩ := ite_some e
  exact go_newarr hty ht hac hd hn hN hN9 h9 (kk _ H)
theorem gm_anew {f : Hp → Option Rr} {t idx : Nat} {n : Int32} {N : Nat} (h24 : 24 ≤ t ∧ t < 24 + aoL.length) (hlink : Cond.classLink (mY M).cls idx (aoL.getD (t - 24) "") ∈ GW) (hd : decode (mB M) pc = .ok (.anewarray idx, 3)) (hn : ¬ n < 0) (hN : n.toNatClampNeg = N) (hN9 : N ≤ 1000000) (H : (nw h t N).bind f = some y) (kk : ∀ h', f h' = some y → Go M out (pc + 3) loc (aA (hTop h) :: stk) h') : Go M out pc loc (aI n :: stk) h := by
  obtain ⟨x, e, H⟩ := bind_some H
  obtain ⟨h9, rfl⟩ := ite_some e
  exact go_anew h24 hlink hd hn hN hN9 h9 (kk _ H)
theorem gm_copyI {f : Hp → Option Rr} {idx a b t : Nat} {sp dp n : Int32} (hs : SiteC M idx) (ht : t = 20 ∨ t = 21) (hd : decode (mB M) pc = .ok (.invokestatic idx, 3)) (hw : wt stk ≤ 8) (H : (cpI h t a b sp dp n).bind f = some y) (kk : ∀ h', f h' = some y → Go M out (pc + 3) loc stk h') : Go M out pc loc (aI n :: aI dp :: aA b :: aI sp :: aA a :: stk) h := by
  obtain ⟨x, e, H⟩ := bind_some H
  obtain ⟨hh, rfl⟩ := ite_some e
  exact go_copyI hs ht hd hh.1 hh.2.1 hh.2.2 hw (kk _ H)
theorem gm_copyL {f : Hp → Option Rr} {idx a b : Nat} {sp dp n : Int32} (hs : SiteC M idx) (hd : decode (mB M) pc = .ok (.invokestatic idx, 3)) (hw : wt stk ≤ 8) (H : (cpJ h a b sp dp n).bind f = some y) (kk : ∀ h', f h' = some y → Go M out (pc + 3) loc stk h') : Go M out pc loc (aI n :: aI dp :: aA b :: aI sp :: aA a :: stk) h := by
  obtain ⟨x, e, H⟩ := bind_some H
  obtain ⟨hh, rfl⟩ := ite_some e
  exact go_copyL hs hd hh.1 hh.2.1 hh.2.2 hw (kk _ H)
/-- a test, with what the model does behind it -/
theorem gm_ite {c : Prop} {_ : Decidable c} {A B : Option Rr} (H : (if c then A else B) = some y) : (c → A = some y) ∧ (¬ c → B = some y) := ⟨fun hc => by rw [if_pos hc] at H; exact H, fun hc => by rw [if_neg hc] at H; exact H⟩
theorem gm_zb {f : Int32 → Option Rr} {x : Int32} (H : (zb x).bind f = some y) : x &&& 1 = x ∧ f x = some y := by
  obtain ⟨x, e, H⟩ := bind_some H
  obtain ⟨h1, rfl⟩ := ite_some e
  exact ⟨h1, H⟩
theorem gm_nz {f : Nat → Option Rr} {x : Nat} (H : (nz x).bind f = some y) : x < 999999 ∧ f x = some y := by
  obtain ⟨x, e, H⟩ := bind_some H
  obtain ⟨h1, rfl⟩ := ite_some e
  exact ⟨h1, H⟩
theorem gm_rc {α : Type} {f : α → Option Rr} {o t : Nat} {m : Option α} (H : (rc h o t m).bind f = some y) : hTag h o = t ∧ ∃ x, m = some x ∧ f x = some y := by
  obtain ⟨x, e, H⟩ := bind_some H
  unfold rc at e
  by_cases hc : hTag h o = t
  · rw [if_pos hc] at e; exact ⟨hc, x, e, H⟩
  · rw [if_neg hc] at e; cases e
theorem go_eqI {x v : Int32} (hx : x = v) (k : Go M out pc loc (aI v :: stk) h) : Go M out pc loc (aI x :: stk) h := by
  subst hx
  exact k
end GM
theorem sw_out {x : Int32} {lo hi : Int} (f : ∀ i : Int, lo ≤ i → i ≤ hi → ¬ x.toInt = i) : x.toInt < lo ∨ hi < x.toInt := by
  rcases Int.lt_or_le x.toInt lo with h1 | h1
  · exact Or.inl h1
  · rcases Int.lt_or_le hi x.toInt with h2 | h2
    · exact Or.inr h2
    · exact absurd rfl (f _ h1 h2)
theorem sw_ne {x k : Int32} {a : Int} (h : ¬ x = k) (hk : k.toInt = a) : ¬ x.toInt = a := fun q => h (Int32.toInt_inj.mp (by rw [hk]; exact q))
theorem tyI_int {M : MT} {x : Int32} (h : mR M = some .int) : tyI M x := ⟨_, h, rfl⟩
theorem tyI_bool {M : MT} {x : Int32} (h : mR M = some .boolean) (hx : x &&& 1 = x) : tyI M x := ⟨_, h, congrArg Value.int hx⟩
