/-- bytes stay bytes -/
def ClOk (t : Nat) (C : String) (T : u_T) (N : Nat) (ty : Nat → FieldType) : Prop := vwCl[t - 1]? = some (C, T, N) ∧ t < 20 ∧ t ≠ 0 ∧ (∀ q ∈ u_ws C T N, q ∈ GW) ∧ (∀ k, k < N → parseFieldDescriptor (T k).2.2.1 = some (ty k)) ∧ (∀ a, a < N → ∀ b, b < N → a ≠ b → (T a).2.1 ≠ (T b).2.1) ∧ Cond.instantiable C N ∈ GW ∧ Cond.initialized C ∈ GW
theorem up2_same {α : Type} {f : Nat → Nat → α} {o k : Nat} {x : α} : up2 f o k x o k = x := by simp [up2]
theorem ClOk.num {t : Nat} {C : String} {T : u_T} {N : Nat} {ty : Nat → FieldType} (h : ClOk t C T N ty) : nf t = N := by
  unfold nf
  rw [h.1]
/-- a field as a pool names it: kind t, slot k, of sort kd, of type ft, final or not -/
def FdOk (cls : String) (idx t k kd : Nat) (ft : FieldType) (fin : Nat) : Prop := ∃ (C : String) (T : u_T) (N : Nat) (ty : Nat → FieldType), ClOk t C T N ty ∧ k < N ∧ Cond.fieldLink cls idx (T k).1 (T k).2.1 (T k).2.2.1 ∈ GW ∧ fk t k = kd ∧ ty k = ft ∧ (fin = 0 → (T k).2.2.2 = false) ∧ (fin = 1 → (T k).2.2.2 = true ∧ (T k).1 = cls)
theorem Go.get {M : MT} {out : Option AV × Hp} {pc : Nat} {loc : List (Option AV)} {stk : List AV} {h : Hp} {idx t k kd o : Nat} {ft : FieldType} {fin : Nat} {v : AV} (hF : FdOk (mY M).cls idx t k kd ft fin) (hd : decode (mB M) pc = .ok (.getfield idx, 3)) (ht : hTag h o = t) (hv : ∀ w : Wd, fv w h t o k = cv w v) (kk : Go M out (pc + 3) loc (v :: stk) h) : Go M out pc loc (aA o :: stk) h := by
  obtain ⟨C, T, N, ty, hC, hk, hlink, -, -, -, -⟩ := hF
  have hnf := hC.num
  obtain ⟨hcl, h20, h0, hu, -⟩ := hC
  refine kk.st fun w p e R s m args below meth c Q t0 H locs ls n1 n2 X hH hS hl k9 => ?_
  obtain ⟨g2, g3, g4⟩ := hH.made ht h0
  have h2 := k9 ls hl
  simp only [List.map_cons] at h2 ⊢
  rw [cv_made g2 g4]
  rw [← hv w] at h2
  exact va_get (D := wD w) (cl := vwCl) (tys := tysL w) (ws := world w h) (ci := t - 1) (fs := fvs w h t o) (C := C) (T := T) (N := N) X.1 X.2.1 X.2.2.2.2.1 hu X.2.2.2.1 X.2.2.2.2.2.1.1 hH.2.2.2.2.1 (o - 2) (by rw [world_get g2 g3, ent_obj ht h20]) hcl k hk (X.2.2.2.2.1 _ hlink) (fun _ h9 => h9) (fvs_get (by rw [hnf]; exact hk)) hd h2
theorem go_getI {M : MT} {out : Option AV × Hp} {pc : Nat} {loc : List (Option AV)} {stk : List AV} {h : Hp} {idx t k o : Nat} {ft : FieldType} {fin : Nat} (hF : FdOk (mY M).cls idx t k 0 ft fin) (hd : decode (mB M) pc = .ok (.getfield idx, 3)) (ht : hTag h o = t) (kk : Go M out (pc + 3) loc (aI (hI h o k) :: stk) h) : Go M out pc loc (aA o :: stk) h := by
  have hf : fk t k = 0 := by obtain ⟨C, T, N, ty, hC, hk, hlink, h1, -⟩ := hF; exact h1
  exact Go.get hF hd ht (fun w => by unfold fv; rw [hf, if_neg (by decide), if_pos rfl]; rfl) kk
theorem go_getJ {M : MT} {out : Option AV × Hp} {pc : Nat} {loc : List (Option AV)} {stk : List AV} {h : Hp} {idx t k o : Nat} {ft : FieldType} {fin : Nat} (hF : FdOk (mY M).cls idx t k 1 ft fin) (hd : decode (mB M) pc = .ok (.getfield idx, 3)) (ht : hTag h o = t) (kk : Go M out (pc + 3) loc (aL (hJ h o k) :: stk) h) : Go M out pc loc (aA o :: stk) h := by
  have hf : fk t k = 1 := by obtain ⟨C, T, N, ty, hC, hk, hlink, h1, -⟩ := hF; exact h1
  exact Go.get hF hd ht (fun w => by unfold fv; rw [hf, if_pos rfl]; rfl) kk
theorem go_getR {M : MT} {out : Option AV × Hp} {pc : Nat} {loc : List (Option AV)} {stk : List AV} {h : Hp} {idx t k o : Nat} {ft : FieldType} {fin : Nat} (hF : FdOk (mY M).cls idx t k 2 ft fin) (hd : decode (mB M) pc = .ok (.getfield idx, 3)) (ht : hTag h o = t) (kk : Go M out (pc + 3) loc (aA (hR h o k) :: stk) h) : Go M out pc loc (aA o :: stk) h := by
  have hf : fk t k = 2 := by obtain ⟨C, T, N, ty, hC, hk, hlink, h1, -⟩ := hF; exact h1
  exact Go.get hF hd ht (fun w => by unfold fv; rw [hf, if_neg (by decide), if_neg (by decide)]; rfl) kk
/-- a step that changes one made cell -/
theorem Go.wr {M : MT} {out : Option AV × Hp} {pc pc' : Nat} {loc loc' : List (Option AV)} {stk stk' : List AV} {h h' : Hp} (k : Go M out pc' loc' stk' h') (hTt : hTop h' = hTop h) (hUu : hUsed h' = hUsed h)
    (f : ∀ (w : Wd) (p : Program) (e : Env) (R : Room) (s : State) (m : MethodId) (args : Array Value) (below : List Frame) (meth : Method) (c : Code) (Q : State → Prop) (t0 : Nat) (H : Heap) (locs : List Loc) (ls : Array Slot) (n1 n2 : Nat),
      Cx w M p s m args meth c R t0 → HPr w h H → va_S (wA w) s.heap H locs → LV w ls (mL M) loc → (∀ (H1 : Heap) (locs1 : List Loc) (ls1 : Array Slot), HPr w h' H1 → va_S (wA w) s.heap H1 locs1 → LV w ls1 (mL M) loc' → W p (wL w) e R s m args below meth c H1 locs1 n1 n2 Q (F0 m pc' ls1 (stk'.map (cv w)))) →
      W p (wL w) e R s m args below meth c H locs n1 n2 Q (F0 m pc ls (stk.map (cv w)))) : Go M out pc loc stk h := by
  refine ⟨hTt ▸ k.1, hUu ▸ k.2.1, fun w p e R s m args below meth c Q t0 u0 C a1 a2 a3 a4 K H locs ls hH hS hl => ?_⟩
  have := f w p e R s m args below meth c Q t0 H locs ls (hTop h - t0) (hUsed h - u0) C hH hS hl
  refine this fun H1 locs1 ls1 g1 g2 g3 => ?_
  have g := k.2.2 w p e R s m args below meth c Q t0 u0 C (by rw [hTt]; exact a1) (by rw [hUu]; exact a2) a3 a4 K H1 locs1 ls1 g1 g2 g3
  rw [hTt, hUu] at g
  exact g
theorem Go.put {M : MT} {out : Option AV × Hp} {pc : Nat} {loc : List (Option AV)} {stk : List AV} {h h' : Hp} {idx t k kd o : Nat} {ft : FieldType} {fin : Nat} {v : AV} (hF : FdOk (mY M).cls idx t k kd ft fin) (hfin : fin = 0 ∨ (fin = 1 ∧ (mY M).name = "<init>")) (hd : decode (mB M) pc = .ok (.putfield idx, 3)) (ht : hTag h o = t)
    (e1 : hTop h' = hTop h) (e2 : hUsed h' = hUsed h) (e3 : hTag h' = hTag h) (e4 : ∀ (w : Wd) (a : Nat), a ≠ o → ent w h' a = ent w h a) (e5 : ∀ (w : Wd) (j : Nat), j ≠ k → fv w h' t o j = fv w h t o j) (e6 : ∀ w : Wd, fv w h' t o k = cv w v) (e7 : ∀ w : Wd, narrow ft (cv w v) = cv w v ∧ fits ft (cv w v) = true) (e8 : (∀ a, hTag h a = 21 → ∀ j, fits .byte (.int (hI h a j)) = true) → ∀ a, hTag h' a = 21 → ∀ j, fits .byte (.int (hI h' a j)) = true)
    (e9 : hLen h' = hLen h ∧ ∀ a, a ≠ o → hI h' a = hI h a) (kk : Go M out (pc + 3) loc stk h') : Go M out pc loc (v :: aA o :: stk) h := by
  obtain ⟨C, T, N, ty, hC, hk, hlink, -, hty, hfn, hcls⟩ := hF
  have hnf := hC.num
  obtain ⟨hcl, h20, h0, hu, hpt, hnm, -, -⟩ := hC
  refine Go.wr kk e1 e2 fun w p e R s m args below meth c Q t0 H locs ls n1 n2 X hH hS hl k9 => ?_
  obtain ⟨g2, g3, g4⟩ := hH.made ht h0
  simp only [List.map_cons]
  rw [cv_made g2 g4]
  have fin2 : ∀ (H1 : Heap) (locs1 : List Loc), va_P (wD w) vwCl ((world w h).set (o - 2) (wz w + (o - 2), .inr (t - 1, (fvs w h t o).set k (cv w v)))) H1 → va_S (wA w) s.heap H1 locs1 → W p (wL w) e R s m args below meth c H1 locs1 n1 n2 Q (F0 m (pc + 3) ls (stk.map (cv w))) := fun H1 locs1 hP1 hS1 =>
    k9 H1 locs1 ls (hH.set g2 g3 e1 e3 (e4 w) (by rw [ent_obj (by rw [e3]; exact ht) h20, ← fvs_set (e5 w) (e6 w)]) e8 e9 hP1) hS1 hl
  have he : (world w h)[o - 2]? = some (wz w + (o - 2), .inr (t - 1, fvs w h t o)) := by rw [world_get g2 g3, ent_obj ht h20]
  have hlen : k < (fvs w h t o).length := by rw [fvs_len, hnf]; exact hk
  rcases hfin with rfl | ⟨rfl, hini⟩
  · exact va_put (D := wD w) (cl := vwCl) (tys := tysL w) (ws := world w h) (ci := t - 1) (fs := fvs w h t o) (C := C) (T := T) (N := N) (ty := ty k) X.1 X.2.1 X.2.2.2.2.1 hu ty hpt hnm X.2.2.2.1 X.2.2.2.2.2.1.1 hH.2.2.2.2.1 (world_D w h) hS (o - 2) he hcl k hk (X.2.2.2.2.1 _ hlink) (fun _ h9 => h9) (hfn rfl) (hpt k hk) (by rw [hty]; exact (e7 w).1) (by rw [hty]; exact (e7 w).2) hlen hd (fun H1 locs1 hP1 _ hS1 => fin2 H1 locs1 hP1 hS1)
  · exact va_putF (D := wD w) (cl := vwCl) (tys := tysL w) (ws := world w h) (ci := t - 1) (fs := fvs w h t o) (C := C) (T := T) (N := N) (ty := ty k) X.1 X.2.1 X.2.2.2.2.1 hu ty hpt hnm X.2.2.2.1 X.2.2.2.2.2.1.1 hH.2.2.2.2.1 (world_D w h) hS (o - 2) he hcl k hk (X.2.2.2.2.1 _ hlink) (fun _ h9 => h9) (hcls rfl).1 (X.2.2.2.2.2.2.2.2.1 hini) (hcls rfl).2 (hpt k hk) (by rw [hty]; exact (e7 w).1) (by rw [hty]; exact (e7 w).2) hlen hd (fun H1 locs1 hP1 _ hS1 => fin2 H1 locs1 hP1 hS1)
theorem ent_setI {w : Wd} {h : Hp} {o k : Nat} {x : Int32} (a : Nat) (ha : a ≠ o) : ent w (setI h o k x) a = ent w h a := ent_congr rfl rfl (by rw [hI_setI, up2_ne ha]) rfl rfl
theorem ent_setJ {w : Wd} {h : Hp} {o k : Nat} {x : Int64} (a : Nat) (ha : a ≠ o) : ent w (setJ h o k x) a = ent w h a := ent_congr rfl rfl rfl (by rw [hJ_setJ, up2_ne ha]) rfl
theorem ent_setR {w : Wd} {h : Hp} {o k : Nat} {x : Nat} (a : Nat) (ha : a ≠ o) : ent w (setR h o k x) a = ent w h a := ent_congr rfl rfl rfl rfl (by rw [hR_setR, up2_ne ha])
theorem byte_setI {h : Hp} {o k : Nat} {x : Int32} (ho : hTag h o ≠ 21) (hb : ∀ a, hTag h a = 21 → ∀ j, fits .byte (.int (hI h a j)) = true) : ∀ a, hTag (setI h o k x) a = 21 → ∀ j, fits .byte (.int (hI (setI h o k x) a j)) = true := by
  intro a ha j
  have hao : a ≠ o := fun q => ho (q ▸ ha)
  rw [hI_setI, up2_ne hao]
  exact hb a ha j
theorem fv_setI_ne {w : Wd} {h : Hp} {t o k j : Nat} {x : Int32} (hj : j ≠ k) : fv w (setI h o k x) t o j = fv w h t o j := by
  unfold fv
  rw [hI_setI, up2_eq]
  simp only [if_neg hj]
  rfl
theorem go_putI {M : MT} {out : Option AV × Hp} {pc : Nat} {loc : List (Option AV)} {stk : List AV} {h : Hp} {idx t k o : Nat} {fin : Nat} {x : Int32} (hF : FdOk (mY M).cls idx t k 0 .int fin) (hfin : fin = 0 ∨ (fin = 1 ∧ (mY M).name = "<init>")) (hd : decode (mB M) pc = .ok (.putfield idx, 3)) (ht : hTag h o = t) (kk : Go M out (pc + 3) loc stk (setI h o k x)) : Go M out pc loc (aI x :: aA o :: stk) h := by
  obtain ⟨hf, h20⟩ : fk t k = 0 ∧ t < 20 := by obtain ⟨C, T, N, ty, hC, hk, hlink, h1, -⟩ := hF; exact ⟨h1, hC.2.1⟩
  exact Go.put (h' := setI h o k x) hF hfin hd ht rfl rfl rfl (fun w => ent_setI) (fun w j hj => fv_setI_ne hj) (fun w => by unfold fv; rw [hf, if_neg (by decide), if_pos rfl, hI_setI, up2_same]; rfl) (fun w => ⟨rfl, rfl⟩) (byte_setI (by rw [ht]; omega)) ⟨rfl, fun a ha => by rw [hI_setI, up2_ne ha]⟩ kk
theorem go_putZ {M : MT} {out : Option AV × Hp} {pc : Nat} {loc : List (Option AV)} {stk : List AV} {h : Hp} {idx t k o : Nat} {fin : Nat} {x : Int32} (hF : FdOk (mY M).cls idx t k 0 .boolean fin) (hfin : fin = 0 ∨ (fin = 1 ∧ (mY M).name = "<init>")) (hx : x &&& 1 = x ∧ (x == 0 || x == 1) = true) (hd : decode (mB M) pc = .ok (.putfield idx, 3)) (ht : hTag h o = t) (kk : Go M out (pc + 3) loc stk (setI h o k x)) : Go M out pc loc (aI x :: aA o :: stk) h := by
  obtain ⟨hf, h20⟩ : fk t k = 0 ∧ t < 20 := by obtain ⟨C, T, N, ty, hC, hk, hlink, h1, -⟩ := hF; exact ⟨h1, hC.2.1⟩
  exact Go.put (h' := setI h o k x) hF hfin hd ht rfl rfl rfl (fun w => ent_setI) (fun w j hj => fv_setI_ne hj) (fun w => by unfold fv; rw [hf, if_neg (by decide), if_pos rfl, hI_setI, up2_same]; rfl) (fun w => ⟨congrArg Value.int hx.1, hx.2⟩) (byte_setI (by rw [ht]; omega)) ⟨rfl, fun a ha => by rw [hI_setI, up2_ne ha]⟩ kk
theorem go_putJ {M : MT} {out : Option AV × Hp} {pc : Nat} {loc : List (Option AV)} {stk : List AV} {h : Hp} {idx t k o : Nat} {fin : Nat} {x : Int64} (hF : FdOk (mY M).cls idx t k 1 .long fin) (hfin : fin = 0 ∨ (fin = 1 ∧ (mY M).name = "<init>")) (hd : decode (mB M) pc = .ok (.putfield idx, 3)) (ht : hTag h o = t) (kk : Go M out (pc + 3) loc stk (setJ h o k x)) : Go M out pc loc (aL x :: aA o :: stk) h := by
  obtain ⟨hf, h20⟩ : fk t k = 1 ∧ t < 20 := by obtain ⟨C, T, N, ty, hC, hk, hlink, h1, -⟩ := hF; exact ⟨h1, hC.2.1⟩
  exact Go.put (h' := setJ h o k x) hF hfin hd ht rfl rfl rfl (fun w => ent_setJ) (fun w j hj => by unfold fv; rw [hJ_setJ, up2_eq]; simp only [if_neg hj]; rfl) (fun w => by unfold fv; rw [hf, if_pos rfl, hJ_setJ, up2_same]; rfl) (fun w => ⟨rfl, rfl⟩) (fun q => q) ⟨rfl, fun a ha => rfl⟩ kk
theorem cv_A_or (w : Wd) (x : Nat) : cv w (aA x) = .null ∨ ∃ a, cv w (aA x) = .ref a := va_rf_or _
theorem go_putR {M : MT} {out : Option AV × Hp} {pc : Nat} {loc : List (Option AV)} {stk : List AV} {h : Hp} {idx t k o : Nat} {ft : FieldType} {fin : Nat} {x : Nat} (hF : FdOk (mY M).cls idx t k 2 ft fin) (hfin : fin = 0 ∨ (fin = 1 ∧ (mY M).name = "<init>")) (hft : (∃ n, ft = .object n) ∨ ∃ n, ft = .array n) (hd : decode (mB M) pc = .ok (.putfield idx, 3)) (ht : hTag h o = t) (kk : Go M out (pc + 3) loc stk (setR h o k x)) : Go M out pc loc (aA x :: aA o :: stk) h := by
  obtain ⟨hf, h20⟩ : fk t k = 2 ∧ t < 20 := by obtain ⟨C, T, N, ty, hC, hk, hlink, h1, -⟩ := hF; exact ⟨h1, hC.2.1⟩
  refine Go.put (h' := setR h o k x) hF hfin hd ht rfl rfl rfl (fun w => ent_setR) (fun w j hj => by unfold fv; rw [hR_setR, up2_eq]; simp only [if_neg hj]; rfl) (fun w => by unfold fv; rw [hf, if_neg (by decide), if_neg (by decide), hR_setR, up2_same]; rfl) (fun w => ?_) (fun q => q) ⟨rfl, fun a ha => rfl⟩ kk
  rcases hft with ⟨n, rfl⟩ | ⟨n, rfl⟩ <;> rcases cv_A_or w x with q | ⟨a, q⟩ <;> rw [q] <;> exact ⟨rfl, rfl⟩
theorem tys_get {w : Wd} {t : Nat} (h1 : 20 ≤ t) (h2 : t < 24 + aoL.length) : (tysL w)[t - 20]? = some (wca w t, aty t) := by
  unfold tysL
  rw [List.getElem?_map, List.getElem?_range (by omega)]
  show some (wca w (20 + (t - 20)), aty (20 + (t - 20))) = _
  rw [show 20 + (t - 20) = t by omega]
theorem arr_get {w : Wd} {h : Hp} {H : Heap} (hH : HPr w h H) {o t : Nat} (ht : hTag h o = t) (h20 : 20 ≤ t) : 2 ≤ o ∧ o < hTop h ∧ o < 900000 ∧ (world w h)[o - 2]? = some (wz w + (o - 2), .inl (wca w t, hLen h o, arrc w h t o)) := by
  obtain ⟨g2, g3, g4⟩ := hH.made ht (by omega)
  exact ⟨g2, g3, g4, by rw [world_get g2 g3, ent_arr ht (by omega)]⟩
theorem arrc_i {w : Wd} {h : Hp} {t o : Nat} (h1 : t ≠ 22) (h2 : t < 24) : arrc w h t o = .inl (hI h o) := by
  unfold arrc
  rw [if_neg h1, if_pos h2]
theorem arrc_l {w : Wd} {h : Hp} {o : Nat} : arrc w h 22 o = .inr (.inl (hJ h o)) := by
  unfold arrc
  rw [if_pos rfl]
theorem arrc_r {w : Wd} {h : Hp} {t o : Nat} (h2 : 24 ≤ t) : arrc w h t o = .inr (.inr (.inr (.inr (fun k => ad w (hR h o k))))) := by
  unfold arrc
  rw [if_neg (by omega), if_neg (by omega)]
/-- an index within, as a test -/
def inB (i : Int32) (n : Nat) : Bool := decide (0 ≤ i.toInt) && decide (i.toInt < n)
theorem inB_in {i : Int32} {n : Nat} (h : inB i n = true) : vp_in i n := by
  unfold inB at h
  simp only [Bool.and_eq_true, decide_eq_true_eq] at h
  exact vp_in_iff.mpr h
theorem go_iald {M : MT} {out : Option AV × Hp} {pc : Nat} {loc : List (Option AV)} {stk : List AV} {h : Hp} {o : Nat} {i : Int32} (hd : decode (mB M) pc = .ok (.iaload, 1)) (ht : hTag h o = 20) (hi : inB i (hLen h o) = true) (kk : Go M out (pc + 1) loc (aI (hI h o i.toNatClampNeg) :: stk) h) : Go M out pc loc (aI i :: aA o :: stk) h := by
  refine kk.st fun w p e R s m args below meth c Q t0 H locs ls n1 n2 X hH hS hl k9 => ?_
  obtain ⟨g2, g3, g4, g5⟩ := arr_get hH ht (by decide)
  rw [arrc_i (by decide) (by decide)] at g5
  simp only [List.map_cons]
  rw [cv_made g2 g4]
  exact va_iald X.1 X.2.1 X.2.2.2.2.2.1.1 hH.2.2.2.2.1 (o - 2) 0 g5 (tys_get (t := 20) (by decide) (by decide)) (inB_in hi) hd (k9 ls hl)
theorem go_bald {M : MT} {out : Option AV × Hp} {pc : Nat} {loc : List (Option AV)} {stk : List AV} {h : Hp} {o : Nat} {i : Int32} (hd : decode (mB M) pc = .ok (.baload, 1)) (ht : hTag h o = 21) (hi : inB i (hLen h o) = true) (kk : Go M out (pc + 1) loc (aI (hI h o i.toNatClampNeg) :: stk) h) : Go M out pc loc (aI i :: aA o :: stk) h := by
  refine kk.st fun w p e R s m args below meth c Q t0 H locs ls n1 n2 X hH hS hl k9 => ?_
  obtain ⟨g2, g3, g4, g5⟩ := arr_get hH ht (by decide)
  rw [arrc_i (by decide) (by decide)] at g5
  simp only [List.map_cons]
  rw [cv_made g2 g4]
  exact va_bald X.1 X.2.1 X.2.2.2.2.2.1.1 hH.2.2.2.2.1 (o - 2) 1 g5 (tys_get (t := 21) (by decide) (by decide)) (inB_in hi) hd (k9 ls hl)
theorem go_zald {M : MT} {out : Option AV × Hp} {pc : Nat} {loc : List (Option AV)} {stk : List AV} {h : Hp} {o : Nat} {i : Int32} (hd : decode (mB M) pc = .ok (.baload, 1)) (ht : hTag h o = 23) (hi : inB i (hLen h o) = true) (kk : Go M out (pc + 1) loc (aI (hI h o i.toNatClampNeg) :: stk) h) : Go M out pc loc (aI i :: aA o :: stk) h := by
  refine kk.st fun w p e R s m args below meth c Q t0 H locs ls n1 n2 X hH hS hl k9 => ?_
  obtain ⟨g2, g3, g4, g5⟩ := arr_get hH ht (by decide)
  rw [arrc_i (by decide) (by decide)] at g5
  simp only [List.map_cons]
  rw [cv_made g2 g4]
  exact va_zald X.1 X.2.1 X.2.2.2.2.2.1.1 hH.2.2.2.2.1 (o - 2) 3 g5 (tys_get (t := 23) (by decide) (by decide)) (inB_in hi) hd (k9 ls hl)
theorem go_lald {M : MT} {out : Option AV × Hp} {pc : Nat} {loc : List (Option AV)} {stk : List AV} {h : Hp} {o : Nat} {i : Int32} (hd : decode (mB M) pc = .ok (.laload, 1)) (ht : hTag h o = 22) (hi : inB i (hLen h o) = true) (kk : Go M out (pc + 1) loc (aL (hJ h o i.toNatClampNeg) :: stk) h) : Go M out pc loc (aI i :: aA o :: stk) h := by
  refine kk.st fun w p e R s m args below meth c Q t0 H locs ls n1 n2 X hH hS hl k9 => ?_
  obtain ⟨g2, g3, g4, g5⟩ := arr_get hH ht (by decide)
  rw [arrc_l] at g5
  simp only [List.map_cons]
  rw [cv_made g2 g4]
  exact va_lald X.1 X.2.1 X.2.2.2.2.2.1.1 hH.2.2.2.2.1 (o - 2) 2 g5 (tys_get (t := 22) (by decide) (by decide)) (inB_in hi) hd (k9 ls hl)
theorem go_aald {M : MT} {out : Option AV × Hp} {pc : Nat} {loc : List (Option AV)} {stk : List AV} {h : Hp} {o t : Nat} {i : Int32} (h24 : 24 ≤ t ∧ t < 24 + aoL.length) (hd : decode (mB M) pc = .ok (.aaload, 1)) (ht : hTag h o = t) (hi : inB i (hLen h o) = true) (kk : Go M out (pc + 1) loc (aA (hR h o i.toNatClampNeg) :: stk) h) : Go M out pc loc (aI i :: aA o :: stk) h := by
  refine kk.st fun w p e R s m args below meth c Q t0 H locs ls n1 n2 X hH hS hl k9 => ?_
  obtain ⟨g2, g3, g4, g5⟩ := arr_get hH ht (by omega)
  rw [arrc_r h24.1] at g5
  simp only [List.map_cons]
  rw [cv_made g2 g4]
  have hty := tys_get (w := w) (t := t) (by omega) h24.2
  unfold aty at hty
  rw [if_neg (by omega), if_neg (by omega), if_neg (by omega), if_neg (by omega)] at hty
  exact va_aldq X.1 X.2.1 X.2.2.2.2.2.1.1 hH.2.2.2.2.1 (o - 2) (t - 20) g5 hty (inB_in hi) hd (k9 ls hl)
theorem go_alen {M : MT} {out : Option AV × Hp} {pc : Nat} {loc : List (Option AV)} {stk : List AV} {h : Hp} {o t : Nat} (h20 : 20 ≤ t ∧ t < 24 + aoL.length) (hd : decode (mB M) pc = .ok (.arraylength, 1)) (ht : hTag h o = t) (kk : Go M out (pc + 1) loc (aI (Int32.ofNat (hLen h o)) :: stk) h) : Go M out pc loc (aA o :: stk) h := by
  refine kk.st fun w p e R s m args below meth c Q t0 H locs ls n1 n2 X hH hS hl k9 => ?_
  obtain ⟨g2, g3, g4, g5⟩ := arr_get hH ht h20.1
  simp only [List.map_cons]
  rw [cv_made g2 g4]
  exact va_alen X.1 X.2.1 X.2.2.2.2.2.1.1 hH.2.2.2.2.1 (o - 2) (t - 20) g5 (tys_get (t := t) h20.1 h20.2) rfl hd (k9 ls hl)
theorem upd_up2 (f : Nat → Nat → Int32) (o k : Nat) (x : Int32) : up2 f o k x o = upd (f o) k x := by
  funext j
  simp [up2, upd]
theorem Go.sti {M : MT} {out : Option AV × Hp} {pc : Nat} {loc : List (Option AV)} {stk : List AV} {h : Hp} {o t : Nat} {i x y : Int32} (h1 : 20 ≤ t ∧ t ≠ 22 ∧ t < 24) (ht : hTag h o = t) (hy : t = 21 → fits .byte (.int y) = true)
    (f : ∀ (w : Wd) (p : Program) (e : Env) (R : Room) (s : State) (m : MethodId) (args : Array Value) (below : List Frame) (meth : Method) (c : Code) (Q : State → Prop) (t0 : Nat) (H : Heap) (locs : List Loc) (ls : Array Slot) (n1 n2 : Nat), Cx w M p s m args meth c R t0 → HPr w h H → va_S (wA w) s.heap H locs → (world w h)[o - 2]? = some (wz w + (o - 2), .inl (wca w t, hLen h o, .inl (hI h o))) →
      (∀ (H1 : Heap) (locs1 : List Loc), va_P (wD w) vwCl ((world w h).set (o - 2) (wz w + (o - 2), .inl (wca w t, hLen h o, .inl (upd (hI h o) i.toNatClampNeg y)))) H1 → va_S (wA w) s.heap H1 locs1 → W p (wL w) e R s m args below meth c H1 locs1 n1 n2 Q (F0 m (pc + 1) ls (stk.map (cv w)))) → W p (wL w) e R s m args below meth c H locs n1 n2 Q (F0 m pc ls (.int x :: .int i :: .ref (wz w + (o - 2)) :: stk.map (cv w))))
    (kk : Go M out (pc + 1) loc stk (setI h o i.toNatClampNeg y)) : Go M out pc loc (aI x :: aI i :: aA o :: stk) h := by
  refine Go.wr kk rfl rfl fun w p e R s m args below meth c Q t0 H locs ls n1 n2 X hH hS hl k9 => ?_
  obtain ⟨g2, g3, g4, g5⟩ := arr_get hH ht h1.1
  rw [arrc_i h1.2.1 h1.2.2] at g5
  simp only [List.map_cons]
  rw [cv_made g2 g4]
  refine f w p e R s m args below meth c Q t0 H locs ls n1 n2 X hH hS g5 fun H1 locs1 hP1 hS1 => ?_
  refine k9 H1 locs1 ls (hH.set g2 g3 rfl rfl ent_setI (by rw [ent_arr (h := setI h o i.toNatClampNeg y) (t := t) ht (by omega), arrc_i h1.2.1 h1.2.2, hI_setI, upd_up2]; rfl) (fun hb a ha j => ?_) ⟨rfl, fun a ha => by rw [hI_setI, up2_ne ha]⟩ hP1) hS1 hl
  rw [hI_setI]
  by_cases hao : a = o
  · subst hao
    rw [up2_eq]
    simp only
    by_cases hj : j = i.toNatClampNeg
    · rw [if_pos hj]
      exact hy (by rw [← ht]; exact ha)
    · rw [if_neg hj]
      exact hb a ha j
  · rw [up2_ne hao]
    exact hb a ha j
theorem go_iast {M : MT} {out : Option AV × Hp} {pc : Nat} {loc : List (Option AV)} {stk : List AV} {h : Hp} {o : Nat} {i x : Int32} (hd : decode (mB M) pc = .ok (.iastore, 1)) (ht : hTag h o = 20) (hi : inB i (hLen h o) = true) (kk : Go M out (pc + 1) loc stk (setI h o i.toNatClampNeg x)) : Go M out pc loc (aI x :: aI i :: aA o :: stk) h :=
  Go.sti (t := 20) (y := x) ⟨by decide, by decide, by decide⟩ ht (fun q => by cases q) (fun w p e R s m args below meth c Q t0 H locs ls n1 n2 X hH hS g5 k9 => va_iast X.1 X.2.1 X.2.2.2.2.2.1.1 hH.2.2.2.2.1 (world_D w h) hS (o - 2) 0 g5 (tys_get (t := 20) (by decide) (by decide)) (inB_in hi) hd (fun H1 locs1 hP1 _ hS1 => k9 H1 locs1 hP1 hS1)) kk
theorem fits_nar_byte (x : Int32) : fits .byte (.int (vp_nar .byte x)) = true := by
  show (decide (-128 ≤ x.toInt8.toInt32) && decide (x.toInt8.toInt32 ≤ 127)) = true
  have h1 := Int8.le_toInt x.toInt8
  have h2 := Int8.toInt_lt x.toInt8
  simp only [Bool.and_eq_true, decide_eq_true_eq]
  constructor
  · rw [Int32.le_iff_toInt_le, Int8.toInt_toInt32]
    exact h1
  · rw [Int32.le_iff_toInt_le, Int8.toInt_toInt32]
    exact Int.le_of_lt_add_one h2
theorem go_bast {M : MT} {out : Option AV × Hp} {pc : Nat} {loc : List (Option AV)} {stk : List AV} {h : Hp} {o : Nat} {i x : Int32} (hd : decode (mB M) pc = .ok (.bastore, 1)) (ht : hTag h o = 21) (hi : inB i (hLen h o) = true) (kk : Go M out (pc + 1) loc stk (setI h o i.toNatClampNeg (vp_nar .byte x))) : Go M out pc loc (aI x :: aI i :: aA o :: stk) h :=
  Go.sti (t := 21) (y := vp_nar .byte x) ⟨by decide, by decide, by decide⟩ ht (fun _ => fits_nar_byte x) (fun w p e R s m args below meth c Q t0 H locs ls n1 n2 X hH hS g5 k9 => va_bast X.1 X.2.1 X.2.2.2.2.2.1.1 hH.2.2.2.2.1 (world_D w h) hS (o - 2) 1 g5 (tys_get (t := 21) (by decide) (by decide)) (inB_in hi) hd (fun H1 locs1 hP1 _ hS1 => k9 H1 locs1 hP1 hS1)) kk
theorem go_zast {M : MT} {out : Option AV × Hp} {pc : Nat} {loc : List (Option AV)} {stk : List AV} {h : Hp} {o : Nat} {i x : Int32} (hd : decode (mB M) pc = .ok (.bastore, 1)) (ht : hTag h o = 23) (hi : inB i (hLen h o) = true) (kk : Go M out (pc + 1) loc stk (setI h o i.toNatClampNeg (vp_nar .boolean x))) : Go M out pc loc (aI x :: aI i :: aA o :: stk) h :=
  Go.sti (t := 23) (y := vp_nar .boolean x) ⟨by decide, by decide, by decide⟩ ht (fun q => by cases q) (fun w p e R s m args below meth c Q t0 H locs ls n1 n2 X hH hS g5 k9 => va_zast X.1 X.2.1 X.2.2.2.2.2.1.1 hH.2.2.2.2.1 (world_D w h) hS (o - 2) 3 g5 (tys_get (t := 23) (by decide) (by decide)) (inB_in hi) hd (fun H1 locs1 hP1 _ hS1 => k9 H1 locs1 hP1 hS1)) kk
theorem updL_up2 (f : Nat → Nat → Int64) (o k : Nat) (x : Int64) : up2 f o k x o = vp_updL (f o) k x := by
  funext j
  simp [up2, vp_updL]
theorem go_last {M : MT} {out : Option AV × Hp} {pc : Nat} {loc : List (Option AV)} {stk : List AV} {h : Hp} {o : Nat} {i : Int32} {x : Int64} (hd : decode (mB M) pc = .ok (.lastore, 1)) (ht : hTag h o = 22) (hi : inB i (hLen h o) = true) (kk : Go M out (pc + 1) loc stk (setJ h o i.toNatClampNeg x)) : Go M out pc loc (aL x :: aI i :: aA o :: stk) h := by
  refine Go.wr kk rfl rfl fun w p e R s m args below meth c Q t0 H locs ls n1 n2 X hH hS hl k9 => ?_
  obtain ⟨g2, g3, g4, g5⟩ := arr_get hH ht (by decide)
  rw [arrc_l] at g5
  simp only [List.map_cons]
  rw [cv_made g2 g4]
  refine va_last X.1 X.2.1 X.2.2.2.2.2.1.1 hH.2.2.2.2.1 (world_D w h) hS (o - 2) 2 g5 (tys_get (t := 22) (by decide) (by decide)) (inB_in hi) hd (fun H1 locs1 hP1 _ hS1 => ?_)
  exact k9 H1 locs1 ls (hH.set g2 g3 rfl rfl ent_setJ (by rw [ent_arr (h := setJ h o i.toNatClampNeg x) (t := 22) ht (by decide), arrc_l, hJ_setJ, updL_up2]; rfl) (fun q => q) ⟨rfl, fun a ha => rfl⟩ hP1) hS1 hl
theorem up_up2 (w : Wd) (f : Nat → Nat → Nat) (o k v b : Nat) (hb : ad w v = some b) : (fun j => ad w (up2 f o k v o j)) = va_up (fun j => ad w (f o j)) k (some b) := by
  funext j
  by_cases hj : j = k
  · subst hj
    simp [up2, va_up, hb]
  · simp [up2, va_up, hj]
theorem go_aast {M : MT} {out : Option AV × Hp} {pc : Nat} {loc : List (Option AV)} {stk : List AV} {h : Hp} {o t u v : Nat} {i : Int32} {C : String} {T : u_T} {N : Nat} {ty : Nat → FieldType} (h24 : 24 ≤ t ∧ t < 24 + aoL.length) (hC : ClOk u C T N ty) (hao : aoL.getD (t - 24) "" = C) (hd : decode (mB M) pc = .ok (.aastore, 1)) (ht : hTag h o = t) (hv : hTag h v = u) (hi : inB i (hLen h o) = true) (kk : Go M out (pc + 1) loc stk (setR h o i.toNatClampNeg v)) : Go M out pc loc (aA v :: aI i :: aA o :: stk) h := by
  refine Go.wr kk rfl rfl fun w p e R s m args below meth c Q t0 H locs ls n1 n2 X hH hS hl k9 => ?_
  obtain ⟨g2, g3, g4, g5⟩ := arr_get hH ht (by omega)
  obtain ⟨v2, v3, v4⟩ := hH.made hv hC.2.2.1
  rw [arrc_r h24.1] at g5
  simp only [List.map_cons]
  rw [cv_made g2 g4, cv_made v2 v4]
  have hty := tys_get (w := w) (t := t) (by omega) h24.2
  unfold aty at hty
  rw [if_neg (by omega), if_neg (by omega), if_neg (by omega), if_neg (by omega), hao] at hty
  refine va_astq (cl := vwCl) (r := (C, T, N)) X.1 X.2.1 X.2.2.2.2.2.1.1 hH.2.2.2.2.1 (world_D w h) hS (o - 2) (t - 20) (v - 2) (u - 1) g5 hty (by rw [world_get v2 v3, ent_obj hv hC.2.1]) hC.1 (inB_in hi) hd (fun H1 locs1 hP1 _ hS1 => ?_)
  refine k9 H1 locs1 ls (hH.set g2 g3 rfl rfl ent_setR ?_ (fun q => q) ⟨rfl, fun a ha => rfl⟩ hP1) hS1 hl
  rw [ent_arr (h := setR h o i.toNatClampNeg v) (t := t) ht (by omega), arrc_r h24.1, hR_setR, up_up2 w _ _ _ _ _ (ad_made v2 v4)]
  rfl
