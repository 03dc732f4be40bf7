theorem newAddr {w : Wd} {p : Program} {l : Launch} {e : Env} {R : Room} {s : State} {m : MethodId} {args : Array Value} {below : List Frame} {meth : Method} {c : Code} {T : State} {locs : List Loc} {cells slots t0 q : Nat} {h : Hp} {H1 : Heap} {x : va_E} (X : Stand p l e R s m args below meth c T locs cells slots) (hT : T.heap = H1) (hc : cells = hTop h - t0 + 1) (hs : s.heap.size = wz w + (t0 - 2)) (h2 : 2 ≤ t0) (ht : t0 ≤ hTop h) (hP : va_P (wD w) vwCl (world w h ++ [(q, x)]) H1) (hD : va_D (wA w) (world w h ++ [(q, x)])) : q = wz w + (hTop h - 2) := by
  have hlen : (world w h).length = hTop h - 2 := by simp [world]
  have e1 : (world w h ++ [(q, x)])[hTop h - 2]? = some (q, x) := by
    rw [List.getElem?_append_right (by omega), hlen, Nat.sub_self]
    rfl
  have h1 := (hP _ _ e1).lt
  have h3 := hD.2 _ _ e1
  have h4 := X.heapSize
  rw [hT, hs] at h4
  simp only at h1
  have h5 : wz w ≤ q := h3
  rcases Nat.lt_or_ge q (wz w + (hTop h - 2)) with h6 | h6
  · exfalso
    have e2 : (world w h ++ [(q, x)])[q - wz w]? = some (wz w + (q - wz w + 2 - 2), ent w h (q - wz w + 2)) := by
      rw [List.getElem?_append_left (by omega)]
      have := world_get (w := w) (h := h) (o := q - wz w + 2) (by omega) (by omega)
      simpa using this
    have := hD.1 _ _ _ _ e1 e2 (by simp only; omega)
    omega
  · omega
theorem HPr.push {w : Wd} {h : Hp} {H1 : Heap} {t n : Nat} {H : Heap} (hH : HPr w h H) (h9 : hTop h + 1 < 900000) (hP : va_P (wD w) vwCl (world w h ++ [(wz w + (hTop h - 2), ent w (alloc h t n) (hTop h))]) H1) : HPr w (alloc h t n) H1 := by
  rw [world_push hH.1 (hTop_alloc h t n) (fun a ha => ent_congr (by rw [hTag_alloc, up1_ne (by omega)]) (by rw [hLen_alloc, up1_ne (by omega)]) (by rw [hI_alloc, up1_ne (by omega)]) (by rw [hJ_alloc, up1_ne (by omega)]) (by rw [hR_alloc, up1_ne (by omega)]))] at hP
  have h1 := hH.1
  refine ⟨by rw [hTop_alloc]; omega, by rw [hTop_alloc]; exact h9, fun o ho => ?_, fun a ha j => ?_, hP, by rw [hLen_alloc, up1_ne (by omega)]; exact hH.2.2.2.2.2.1, by rw [hI_alloc, up1_ne (by omega)]; exact hH.2.2.2.2.2.2⟩
  · rw [hTop_alloc] at ho
    rw [hTag_alloc, up1_ne (by omega)]
    exact hH.2.2.1 o (by omega)
  · rw [hI_alloc]
    by_cases hao : a = hTop h
    · subst hao
      rw [up1_eq]
      decide
    · rw [up1_ne hao]
      rw [hTag_alloc, up1_ne hao] at ha
      exact hH.2.2.2.1 a ha j
/-- a step that makes one cell -/
theorem Go.make {M : MT} {out : Option AV × Hp} {pc pc' : Nat} {loc : List (Option AV)} {stk stk' : List AV} {h : Hp} {t n : Nat} (h9 : hTop h + 1 < 900000) (k : Go M out pc' loc (aA (hTop h) :: stk') (alloc h t n))
    (f : ∀ (w : Wd) (p : Program) (e : Env) (R : Room) (s : State) (m : MethodId) (args : Array Value) (below : List Frame) (meth : Method) (c : Code) (Q : State → Prop) (t0 : Nat) (H : Heap) (locs : List Loc) (ls : Array Slot) (n1 n2 : Nat), Cx w M p s m args meth c R t0 → HPr w h H → va_S (wA w) s.heap H locs → n1 + 1 ≤ R.cells → n2 + n ≤ R.slots →
      (∀ (q : Nat) (H1 : Heap), va_P (wD w) vwCl (world w h ++ [(q, ent w (alloc h t n) (hTop h))]) H1 → va_D (wA w) (world w h ++ [(q, ent w (alloc h t n) (hTop h))]) → va_S (wA w) s.heap H1 locs → W p (wL w) e R s m args below meth c H1 locs (n1 + 1) (n2 + n) Q (F0 m pc' ls (.ref q :: stk'.map (cv w)))) →
      W p (wL w) e R s m args below meth c H locs n1 n2 Q (F0 m pc ls (stk.map (cv w)))) : Go M out pc loc stk h := by
  have k1 := k.1
  have k2 := k.2.1
  rw [hTop_alloc] at k1
  rw [hUsed_alloc] at k2
  refine ⟨by omega, by omega, fun w p e R s m args below meth c Q t0 u0 C a1 a2 a3 a4 K H locs ls hH hS hl => ?_⟩
  refine f w p e R s m args below meth c Q t0 H locs ls (hTop h - t0) (hUsed h - u0) C hH hS (by omega) (by omega) fun q H1 hP hD hS1 => ?_
  intro T hT X
  have hq := newAddr (w := w) (h := h) X hT rfl C.2.2.2.2.2.2.1 C.2.2.2.2.2.2.2.1 a1 hP hD
  subst hq
  have g := k.2.2 w p e R s m args below meth c Q t0 u0 C (by rw [hTop_alloc]; omega) (by rw [hUsed_alloc]; omega) a3 a4 K H1 locs ls (hH.push h9 hP) hS1 hl
  rw [hTop_alloc, hUsed_alloc, show hTop h + 1 - t0 = hTop h - t0 + 1 by omega, show hUsed h + n - u0 = hUsed h - u0 + n by omega, List.map_cons, cv_made hH.1 hH.2.1] at g
  exact g T hT X
theorem go_new {M : MT} {out : Option AV × Hp} {pc idx t : Nat} {loc : List (Option AV)} {stk : List AV} {h : Hp} {C : String} {T : u_T} {N : Nat} {ty : Nat → FieldType} (hC : ClOk t C T N ty) (hdv : ∀ j, j < N → defaultValue (ty j) = if fk t j = 1 then .long 0 else if fk t j = 0 then .int 0 else .null) (hlink : Cond.classLink (mY M).cls idx C ∈ GW) (hd : decode (mB M) pc = .ok (.new idx, 3)) (h9 : hTop h + 1 < 900000) (k : Go M out (pc + 3) loc (aA (hTop h) :: stk) (alloc h t N)) : Go M out pc loc stk h := by
  have hnf := hC.num
  obtain ⟨hcl, h20, h0, hu, hpt, hnm, hins, hini⟩ := hC
  refine Go.make h9 k fun w p e R s m args below meth c Q t0 H locs ls n1 n2 X hH hS hc1 hc2 k9 => ?_
  have he : ent w (alloc h t N) (hTop h) = .inr (t - 1, fvs w (alloc h t N) t (hTop h)) := ent_obj (by rw [hTag_alloc, up1_eq]) h20
  rw [he] at k9
  refine va_new (D := wD w) (cl := vwCl) (tys := tysL w) (ws := world w h) (ci := t - 1) (fs := fvs w (alloc h t N) t (hTop h)) (C := C) (T := T) (N := N) X.1 X.2.1 X.2.2.2.2.1 hu ty hpt X.2.2.2.1 (X.2.2.2.2.1 _ hlink) (X.2.2.2.2.1 _ hins) (X.2.2.2.2.1 _ hini) X.2.2.2.2.2.1.1 hH.2.2.2.2.1 (world_D w h) hS (fun q hq => by have := X.2.2.2.2.2.2.1; show wz w ≤ q; omega) hcl (fun j hj => ?_) hc1 hc2 hd (fun q H1 hP hD hS1 => k9 q H1 hP hD hS1)
  rw [hdv j hj]
  unfold vp_V
  rw [List.getD_eq_getElem?_getD, fvs_get (by rw [hnf]; exact hj)]
  unfold fv
  rw [hI_alloc, hJ_alloc, hR_alloc, up1_eq, up1_eq, up1_eq]
  rfl
theorem go_newarr {M : MT} {out : Option AV × Hp} {pc t : Nat} {loc : List (Option AV)} {stk : List AV} {h : Hp} {atype : ArrayType} {n : Int32} {N : Nat} (hty : newarray.typeOf atype = aty t) (ht : t = 20 ∨ t = 21 ∨ t = 22 ∨ t = 23) (hac : Cond.arrayClass (newarray.typeOf atype) ∈ GW) (hd : decode (mB M) pc = .ok (.newarray atype, 2)) (hn : ¬ n < 0) (hN : n.toNatClampNeg = N) (hN9 : N ≤ 1000000) (h9 : hTop h + 1 < 900000) (k : Go M out (pc + 2) loc (aA (hTop h) :: stk) (alloc h t N)) : Go M out pc loc (aI n :: stk) h := by
  refine Go.make h9 k fun w p e R s m args below meth c Q t0 H locs ls n1 n2 X hH hS hc1 hc2 k9 => ?_
  have hb : N * componentBytes (aty t) ≤ 536870912 := by
    rcases ht with rfl | rfl | rfl | rfl
    · have : componentBytes (aty 20) = 4 := by decide
      rw [this]; omega
    · have : componentBytes (aty 21) = 1 := by decide
      rw [this]; omega
    · have : componentBytes (aty 22) = 8 := by decide
      rw [this]; omega
    · have : componentBytes (aty 23) = 1 := by decide
      rw [this]; omega
  have he : ent w (alloc h t N) (hTop h) = .inl (wca w t, N, arrc w (alloc h t N) t (hTop h)) := by
    rw [ent_arr (t := t) (by rw [hTag_alloc, up1_eq]) (by omega), hLen_alloc, up1_eq]
  rw [he] at k9
  refine va_newa (D := wD w) (cl := vwCl) (tys := tysL w) (ws := world w h) (a0 := (N, arrc w (alloc h t N) t (hTop h))) X.1 X.2.1 (X.2.2.2.2.1 _ hac) hty X.2.2.2.2.2.1.1 hH.2.2.2.2.1 (world_D w h) hS (fun q hq => by have := X.2.2.2.2.2.2.1; show wz w ≤ q; omega) (fun cA => ?_) hn hN hb hc1 hc2 hd (fun q cA H1 hK hP hD hS1 => ?_)
  · rcases ht with rfl | rfl | rfl | rfl
    · rw [arrc_i (by decide) (by decide), hI_alloc, up1_eq]; rfl
    · rw [arrc_i (by decide) (by decide), hI_alloc, up1_eq]; rfl
    · rw [arrc_l, hJ_alloc, up1_eq]; rfl
    · rw [arrc_i (by decide) (by decide), hI_alloc, up1_eq]; rfl
  · have e1 : (tysL w ++ [(cA, aty t)])[(tysL w).length]? = some (cA, aty t) := by
      rw [List.getElem?_append_right (Nat.le_refl _), Nat.sub_self]
      rfl
    have f1 := (hK.2 _ _ e1).2
    have f2 := (X.2.2.2.2.2.1.1.2 _ _ (tys_get (w := w) (t := t) (by omega) (by omega))).2
    have hcA : cA = wca w t := by
      rcases ht with rfl | rfl | rfl | rfl <;> exact Option.some.inj (f1.symm.trans f2)
    subst hcA
    exact k9 q H1 hP hD hS1
theorem go_anew {M : MT} {out : Option AV × Hp} {pc t idx : Nat} {loc : List (Option AV)} {stk : List AV} {h : Hp} {n : Int32} {N : Nat} (h24 : 24 ≤ t ∧ t < 24 + aoL.length) (hlink : Cond.classLink (mY M).cls idx (aoL.getD (t - 24) "") ∈ GW) (hd : decode (mB M) pc = .ok (.anewarray idx, 3)) (hn : ¬ n < 0) (hN : n.toNatClampNeg = N) (hN9 : N ≤ 1000000) (h9 : hTop h + 1 < 900000) (k : Go M out (pc + 3) loc (aA (hTop h) :: stk) (alloc h t N)) : Go M out pc loc (aI n :: stk) h := by
  refine Go.make h9 k fun w p e R s m args below meth c Q t0 H locs ls n1 n2 X hH hS hc1 hc2 k9 => ?_
  have he : ent w (alloc h t N) (hTop h) = .inl (wca w t, N, .inr (.inr (.inr (.inr (fun _ => none))))) := by
    rw [ent_arr (t := t) (by rw [hTag_alloc, up1_eq]) (by omega), hLen_alloc, up1_eq, arrc_r h24.1, hR_alloc, up1_eq]
    rfl
  rw [he] at k9
  have hmem : aoL.getD (t - 24) "" ∈ aoL := by
    rw [List.getD_eq_getElem?_getD, List.getElem?_eq_getElem (by omega)]
    exact List.getElem_mem _
  refine va_newq (D := wD w) (cl := vwCl) (tys := tysL w) (ws := world w h) X.1 X.2.1 X.2.2.2.1 (X.2.2.2.2.1 _ hlink) (X.2.2.2.2.2.1.2.2.2.2.2.2.2.2 _ hmem) X.2.2.2.2.2.1.1 hH.2.2.2.2.1 (world_D w h) hS (fun q hq => by have := X.2.2.2.2.2.2.1; show wz w ≤ q; omega) hn hN (by omega) hc1 hc2 hd (fun q cA H1 hK hP hD hS1 => ?_)
  have e1 : (tysL w ++ [(cA, .object (aoL.getD (t - 24) ""))])[(tysL w).length]? = some (cA, .object (aoL.getD (t - 24) "")) := by
    rw [List.getElem?_append_right (Nat.le_refl _), Nat.sub_self]
    rfl
  have hty := tys_get (w := w) (t := t) (by omega) h24.2
  unfold aty at hty
  rw [if_neg (by omega), if_neg (by omega), if_neg (by omega), if_neg (by omega)] at hty
  obtain ⟨kA, comp, -, -, -, f1⟩ := (hK.2 _ _ e1).2
  obtain ⟨kA2, comp2, -, -, -, f2⟩ := (X.2.2.2.2.2.1.1.2 _ _ hty).2
  have hcA : cA = wca w t := Option.some.inj (f1.symm.trans f2)
  subst hcA
  exact k9 q H1 hP hD hS1
theorem ent_setIA {w : Wd} {h : Hp} {o : Nat} {f : Nat → Int32} (a : Nat) (ha : a ≠ o) : ent w (setIA h o f) a = ent w h a := ent_congr rfl rfl (by rw [hI_setIA, up1_ne ha]) rfl rfl
theorem ent_setJA {w : Wd} {h : Hp} {o : Nat} {f : Nat → Int64} (a : Nat) (ha : a ≠ o) : ent w (setJA h o f) a = ent w h a := ent_congr rfl rfl rfl (by rw [hJ_setJA, up1_ne ha]) rfl
def SiteC (M : MT) (idx : Nat) : Prop := Cond.methodLink (mY M).cls idx arraycopyName ∈ GW ∧ Cond.native arraycopyName ∈ GW ∧ Cond.static arraycopyName ∈ GW ∧ Cond.initialized "java/lang/System" ∈ GW ∧ 1 ≤ mF M ∧ 8 + (nativeFrameWords "java/lang/System" "arraycopy" 5 + 11) ≤ mW M
/-- what may be copied -/
def cpB (sp dp n : Int32) (a b : Nat) : Bool := decide (0 ≤ sp.toInt) && decide (0 ≤ dp.toInt) && decide (0 ≤ n.toInt) && decide (sp.toInt + n.toInt ≤ a) && decide (dp.toInt + n.toInt ≤ b)
theorem cpB_in {sp dp n : Int32} {a b : Nat} (h : cpB sp dp n a b = true) : ¬ sp < 0 ∧ ¬ dp < 0 ∧ ¬ n < 0 ∧ sp.toNatClampNeg + n.toNatClampNeg ≤ a ∧ dp.toNatClampNeg + n.toNatClampNeg ≤ b := by
  unfold cpB at h
  simp only [Bool.and_eq_true, decide_eq_true_eq] at h
  obtain ⟨⟨⟨⟨h1, h2⟩, h3⟩, h4⟩, h5⟩ := h
  have key : ∀ z : Int32, 0 ≤ z.toInt → ¬ z < 0 := fun z hz q => by
    have := Int32.lt_iff_toInt_lt.mp q
    simp at this
    omega
  refine ⟨key _ h1, key _ h2, key _ h3, ?_, ?_⟩
  · show sp.toInt.toNat + n.toInt.toNat ≤ a
    omega
  · show dp.toInt.toNat + n.toInt.toNat ≤ b
    omega
theorem go_copyI {M : MT} {out : Option AV × Hp} {pc idx a b t : Nat} {loc : List (Option AV)} {stk : List AV} {h : Hp} {sp dp n : Int32} (hs : SiteC M idx) (ht : t = 20 ∨ t = 21) (hd : decode (mB M) pc = .ok (.invokestatic idx, 3)) (ha : hTag h a = t) (hb : hTag h b = t) (hc : cpB sp dp n (hLen h a) (hLen h b) = true) (hw : wt stk ≤ 8) (k : Go M out (pc + 3) loc stk (setIA h b (va_cpy (hI h a) (hI h b) sp.toNatClampNeg dp.toNatClampNeg n.toNatClampNeg))) : Go M out pc loc (aI n :: aI dp :: aA b :: aI sp :: aA a :: stk) h := by
  obtain ⟨c1, c2, c3, c4, c5⟩ := cpB_in hc
  obtain ⟨s1, s2, s3, s4, s5, s6⟩ := hs
  refine Go.wr k rfl rfl fun w p e R s m args below meth c Q t0 H locs ls n1 n2 X hH hS hl k9 => ?_
  obtain ⟨g2, g3, g4, g5⟩ := arr_get hH ha (by omega)
  obtain ⟨q2, q3, q4, q5⟩ := arr_get hH hb (by omega)
  rw [arrc_i (by omega) (by omega)] at g5 q5
  simp only [List.map_cons]
  rw [cv_made g2 g4, cv_made q2 q4]
  have r1 := X.2.2.2.2.2.2.2.2.2.1
  have r2 := X.2.2.2.2.2.2.2.2.2.2
  have hfit : ∀ i, i < n.toNatClampNeg → fits (aty t) (.int (hI h a (sp.toNatClampNeg + i))) = true := by
    intro i _
    rcases ht with rfl | rfl
    · rfl
    · exact hH.2.2.2.1 a ha _
  refine va_copyi (ty := aty t) X.1 X.2.1 (by rw [X.2.2.1]; exact hl.1.symm) X.2.2.2.1 (X.2.2.2.2.1 _ s1) (X.2.2.2.2.1 _ s2) (X.2.2.2.2.1 _ s3) (X.2.2.2.2.1 _ s4) X.2.2.2.2.2.1.1 hH.2.2.2.2.1 (world_D w h) hS (a - 2) (b - 2) (t - 20) (t - 20) g5 q5 (tys_get (by omega) (by omega)) (tys_get (by omega) (by omega)) (by rcases ht with rfl | rfl <;> decide) c1 c2 c3 c4 c5 hfit (by omega) (by rw [wt_eq]; omega) hd (fun H1 locs1 hP1 _ hS1 => ?_)
  refine k9 H1 locs1 ls (hH.set q2 q3 rfl rfl ent_setIA (by rw [ent_arr (h := setIA h b _) (t := t) hb (by omega), arrc_i (by omega) (by omega), hI_setIA, up1_eq]; rfl) (fun hby x hx j => ?_) ⟨rfl, fun a ha => by rw [hI_setIA, up1_ne ha]⟩ hP1) hS1 hl
  rw [hI_setIA]
  by_cases hxb : x = b
  · subst hxb
    rw [up1_eq]
    have h21 : t = 21 := by rw [← hb]; exact hx
    subst h21
    unfold va_cpy
    split
    · exact hby a ha _
    · exact hby x hb _
  · rw [up1_ne hxb]
    exact hby x hx j
theorem go_copyL {M : MT} {out : Option AV × Hp} {pc idx a b : Nat} {loc : List (Option AV)} {stk : List AV} {h : Hp} {sp dp n : Int32} (hs : SiteC M idx) (hd : decode (mB M) pc = .ok (.invokestatic idx, 3)) (ha : hTag h a = 22) (hb : hTag h b = 22) (hc : cpB sp dp n (hLen h a) (hLen h b) = true) (hw : wt stk ≤ 8) (k : Go M out (pc + 3) loc stk (setJA h b (va_cpy (hJ h a) (hJ h b) sp.toNatClampNeg dp.toNatClampNeg n.toNatClampNeg))) : Go M out pc loc (aI n :: aI dp :: aA b :: aI sp :: aA a :: stk) h := by
  obtain ⟨c1, c2, c3, c4, c5⟩ := cpB_in hc
  obtain ⟨s1, s2, s3, s4, s5, s6⟩ := hs
  refine Go.wr k rfl rfl fun w p e R s m args below meth c Q t0 H locs ls n1 n2 X hH hS hl k9 => ?_
  obtain ⟨g2, g3, g4, g5⟩ := arr_get hH ha (by decide)
  obtain ⟨q2, q3, q4, q5⟩ := arr_get hH hb (by decide)
  rw [arrc_l] at g5 q5
  simp only [List.map_cons]
  rw [cv_made g2 g4, cv_made q2 q4]
  have r1 := X.2.2.2.2.2.2.2.2.2.1
  have r2 := X.2.2.2.2.2.2.2.2.2.2
  refine va_copyl (ty := .long) X.1 X.2.1 (by rw [X.2.2.1]; exact hl.1.symm) X.2.2.2.1 (X.2.2.2.2.1 _ s1) (X.2.2.2.2.1 _ s2) (X.2.2.2.2.1 _ s3) (X.2.2.2.2.1 _ s4) X.2.2.2.2.2.1.1 hH.2.2.2.2.1 (world_D w h) hS (a - 2) (b - 2) 2 2 g5 q5 (tys_get (t := 22) (by decide) (by decide)) (tys_get (t := 22) (by decide) (by decide)) (by decide) c1 c2 c3 c4 c5 (fun i _ => rfl) (by omega) (by rw [wt_eq]; omega) hd (fun H1 locs1 hP1 _ hS1 => ?_)
  exact k9 H1 locs1 ls (hH.set q2 q3 rfl rfl ent_setJA (by rw [ent_arr (h := setJA h b _) (t := 22) hb (by decide), arrc_l, hJ_setJA, up1_eq]; rfl) (fun q => q) ⟨rfl, fun a ha => rfl⟩ hP1) hS1 hl
/-- texts -/
def tN (i : Nat) : Nat := 1000000 + 2 * i
def tB (i : Nat) : Nat := 1000000 + 2 * i + 1
theorem ad_tN (w : Wd) (i : Nat) : ad w (tN i) = some (wK w i) := by
  unfold ad tN
  rw [if_neg (by omega), if_neg (by omega), if_neg (by omega), if_neg (by omega), if_pos (by omega), show (1000000 + 2 * i - 1000000) / 2 = i by omega]
theorem ad_tB (w : Wd) (i : Nat) : ad w (tB i) = some (wV w i) := by
  unfold ad tB
  rw [if_neg (by omega), if_neg (by omega), if_neg (by omega), if_neg (by omega), if_neg (by omega), show (1000000 + 2 * i + 1 - 1000000) / 2 = i by omega]
theorem cv_tN (w : Wd) (i : Nat) : cv w (aA (tN i)) = .ref (wK w i) := by
  show va_rf (ad w (tN i)) = _
  rw [ad_tN]; rfl
theorem cv_tB (w : Wd) (i : Nat) : cv w (aA (tB i)) = .ref (wV w i) := by
  show va_rf (ad w (tB i)) = _
  rw [ad_tB]; rfl
theorem go_ldcS {M : MT} {out : Option AV × Hp} {pc : Nat} {loc : List (Option AV)} {stk : List AV} {h : Hp} {i idx : Nat} {tx : String} (hi : stL[i]? = some ((mY M).cls, idx, tx)) (hd : decode (mB M) pc = .ok (.ldc idx, 2)) (k : Go M out (pc + 2) loc (aA (tN i) :: stk) h) : Go M out pc loc stk h := by
  refine k.st fun w p e R s m args below meth c Q t0 H locs ls n1 n2 C hH hS hl kk => ?_
  have hlt : i < stL.length := (List.getElem?_eq_some_iff.mp hi).1
  have h7 := C.2.2.2.2.2.1.2.2.2.2.2.2.1 i hlt
  rw [List.getD_eq_getElem?_getD, hi] at h7
  have h2 := kk ls hl
  rw [List.map_cons, cv_tN] at h2
  exact va_ldcS C.1 C.2.1 C.2.2.2.1 h7 hd h2
theorem go_sgetV {M : MT} {out : Option AV × Hp} {pc idx i : Nat} {loc : List (Option AV)} {stk : List AV} {h : Hp} (hi : i < stL.length) (hlink : Cond.fieldLink (mY M).cls idx "java/lang/String" "value" "[B" ∈ GW) (hd : decode (mB M) pc = .ok (.getfield idx, 3)) (k : Go M out (pc + 3) loc (aA (tB i) :: stk) h) : Go M out pc loc (aA (tN i) :: stk) h := by
  refine k.st fun w p e R s m args below meth c Q t0 H locs ls n1 n2 C hH hS hl kk => ?_
  have h2 := kk ls hl
  rw [List.map_cons, cv_tB] at h2
  rw [List.map_cons, cv_tN]
  exact vk_getf C.1 C.2.1 (C.2.2.2.2.2.1.2.2.2.1.1 i hi).2.2.1 hS C.2.2.2.1 (C.2.2.2.2.1 _ hlink) (fun _ q => q) hd h2
theorem go_sgetC {M : MT} {out : Option AV × Hp} {pc idx i : Nat} {loc : List (Option AV)} {stk : List AV} {h : Hp} (hi : i < stL.length) (hlink : Cond.fieldLink (mY M).cls idx "java/lang/String" "coder" "B" ∈ GW) (hd : decode (mB M) pc = .ok (.getfield idx, 3)) (k : Go M out (pc + 3) loc (aI 0 :: stk) h) : Go M out pc loc (aA (tN i) :: stk) h := by
  refine k.st fun w p e R s m args below meth c Q t0 H locs ls n1 n2 C hH hS hl kk => ?_
  have h2 := kk ls hl
  rw [List.map_cons] at h2
  rw [List.map_cons, cv_tN]
  exact vk_getf C.1 C.2.1 (C.2.2.2.2.2.1.2.2.2.1.1 i hi).2.1 hS C.2.2.2.1 (C.2.2.2.2.1 _ hlink) (fun _ q => q) hd h2
theorem go_slen {M : MT} {out : Option AV × Hp} {pc i : Nat} {loc : List (Option AV)} {stk : List AV} {h : Hp} (hi : i < stL.length) (hd : decode (mB M) pc = .ok (.arraylength, 1)) (k : Go M out (pc + 1) loc (aI (Int32.ofNat (stLen.getD i 0)) :: stk) h) : Go M out pc loc (aA (tB i) :: stk) h := by
  refine k.st fun w p e R s m args below meth c Q t0 H locs ls n1 n2 C hH hS hl kk => ?_
  have h2 := kk ls hl
  rw [List.map_cons, cv_tB]
  exact va_tlen C.1 C.2.1 (C.2.2.2.2.2.1.2.2.2.1.1 i hi).2.2.2 hS rfl hd h2
theorem go_sbald {M : MT} {out : Option AV × Hp} {pc i : Nat} {loc : List (Option AV)} {stk : List AV} {h : Hp} {j : Int32} (hi : i < stL.length) (hd : decode (mB M) pc = .ok (.baload, 1)) (hj : inB j (stLen.getD i 0) = true) (k : Go M out (pc + 1) loc (aI ((stByt.getD i []).getD j.toNatClampNeg 0) :: stk) h) : Go M out pc loc (aI j :: aA (tB i) :: stk) h := by
  refine k.st fun w p e R s m args below meth c Q t0 H locs ls n1 n2 C hH hS hl kk => ?_
  have h2 := kk ls hl
  rw [List.map_cons, List.map_cons, cv_tB]
  exact va_tb C.1 C.2.1 (C.2.2.2.2.2.1.2.2.2.1.1 i hi).2.2.2 hS (inB_in hj) rfl hd h2
theorem go_getsC {M : MT} {out : Option AV × Hp} {pc idx : Nat} {loc : List (Option AV)} {stk : List AV} {h : Hp} (hlink : Cond.fieldLink (mY M).cls idx "java/lang/String" "COMPACT_STRINGS" "Z" ∈ GW) (hd : decode (mB M) pc = .ok (.getstatic idx, 3)) (k : Go M out (pc + 3) loc (aI 1 :: stk) h) : Go M out pc loc stk h := by
  refine k.st fun w p e R s m args below meth c Q t0 H locs ls n1 n2 C hH hS hl kk => ?_
  exact va_gets C.1 C.2.1 C.2.2.2.2.2.1.2.2.2.2.1 hS C.2.2.2.1 (C.2.2.2.2.1 _ hlink) (fun _ q => q) hd (kk ls hl)
theorem go_getsF {M : MT} {out : Option AV × Hp} {pc idx : Nat} {loc : List (Option AV)} {stk : List AV} {h : Hp} (hlink : Cond.fieldLink (mY M).cls idx "jdk/internal/util/Preconditions" "SIOOBE_FORMATTER" "Ljava/util/function/BiFunction;" ∈ GW) (hd : decode (mB M) pc = .ok (.getstatic idx, 3)) (k : Go M out (pc + 3) loc (aA 999999 :: stk) h) : Go M out pc loc stk h := by
  refine k.st fun w p e R s m args below meth c Q t0 H locs ls n1 n2 C hH hS hl kk => ?_
  exact va_gets C.1 C.2.1 C.2.2.2.2.2.1.2.2.2.2.2.1 hS C.2.2.2.1 (C.2.2.2.2.1 _ hlink) (fun _ q => q) hd (kk ls hl)
theorem go_callVS {M M2 : MT} {out o1 : Option AV × Hp} {pc idx n i : Nat} {loc : List (Option AV)} {stk st0 : List AV} {h : Hp} {vs : List AV} (hM : MOk M2) (hi : i < stL.length) (hcls : (mY M2).cls = "java/lang/String") (hs : SiteV M idx M2 n) (hd : decode (mB M) pc = .ok (.invokevirtual idx, 3)) (hst : st0 = vs.reverse ++ aA (tN i) :: stk) (hn : vs.length = n) (hlen : (la0 (aA (tN i) :: vs)).length ≤ mL M2) (hw : wt stk ≤ 8) (hE : Ev M2 (aA (tN i) :: vs) h o1) (k : Go M out (pc + 3) loc (o1.1.toList ++ stk) o1.2) : Go M out pc loc st0 h := by
  refine Go.callV hM hs hd hst hn hlen hw hE k fun w s H locs hE hH hS => ?_
  rw [hcls]
  exact ⟨_, ad_tN w i, vk_recv hE.2.2.2.1 hi hS⟩
/-- the script -/
theorem cv_1 (w : Wd) : cv w (aA 1) = .ref (wb w) := rfl
theorem go_xlen {M : MT} {out : Option AV × Hp} {pc : Nat} {loc : List (Option AV)} {stk : List AV} {h : Hp} (hd : decode (mB M) pc = .ok (.arraylength, 1)) (k : Go M out (pc + 1) loc (aI (Int32.ofNat (hLen h 1)) :: stk) h) : Go M out pc loc (aA 1 :: stk) h := by
  refine k.st fun w p e R s m args below meth c Q t0 H locs ls n1 n2 C hH hS hl kk => ?_
  have h2 := kk ls hl
  rw [hH.2.2.2.2.2.1] at h2
  rw [List.map_cons, cv_1]
  exact va_slen C.1 C.2.1 (A := wA w) (b := wb w) C.2.2.2.2.2.1.2.2.1 (by have := C.2.2.2.2.2.2.1; have := C.2.2.2.2.2.1.2.1; omega) (Nat.not_le.mpr C.2.2.2.2.2.1.2.1) hS hd h2
theorem go_xald {M : MT} {out : Option AV × Hp} {pc : Nat} {loc : List (Option AV)} {stk : List AV} {h : Hp} {i : Int32} (hd : decode (mB M) pc = .ok (.iaload, 1)) (hi : inB i (hLen h 1) = true) (k : Go M out (pc + 1) loc (aI (hI h 1 i.toNatClampNeg) :: stk) h) : Go M out pc loc (aI i :: aA 1 :: stk) h := by
  refine k.st fun w p e R s m args below meth c Q t0 H locs ls n1 n2 C hH hS hl kk => ?_
  have h2 := kk ls hl
  rw [hH.2.2.2.2.2.2] at h2
  rw [hH.2.2.2.2.2.1] at hi
  rw [List.map_cons, List.map_cons, cv_1]
  exact va_sld C.1 C.2.1 (A := wA w) (b := wb w) C.2.2.2.2.2.1.2.2.1 (by have := C.2.2.2.2.2.2.1; have := C.2.2.2.2.2.1.2.1; omega) (Nat.not_le.mpr C.2.2.2.2.2.1.2.1) hS (inB_in hi) hd h2
