/-- the heap's size, out of what was made -/
theorem szW {w : Wd} {p : Program} {l : Launch} {e : Env} {R : Room} {s : State} {m : MethodId} {args : Array Value} {below : List Frame} {meth : Method} {c : Code} {T : State} {locs : List Loc} {cells slots t0 : Nat} {h : Hp} {H : Heap} (X : Stand p l e R s m args below meth c T locs cells slots) (hT : T.heap = H) (hc : cells ≤ hTop h - t0) (hs : s.heap.size = wz w + (t0 - 2)) (h2 : 2 ≤ t0) (ht : t0 ≤ hTop h) (hH : HPr w h H) (hS : va_S (wA w) s.heap H locs) : H.size = wz w + (hTop h - 2) := by
  have h1 := X.heapSize
  rw [hT, hs] at h1
  have h3 := hS.1
  rw [hs] at h3
  have h4 : wz w + (hTop h - 2) ≤ H.size := by
    by_cases hz : hTop h = 2
    · omega
    · have h5 := world_get (w := w) (h := h) (o := hTop h - 1) (by have := hH.1; omega) (by have := hH.1; omega)
      have h6 := (hH.2.2.2.2.1 _ _ h5).lt
      have := hH.1
      simp only at h6
      omega
  omega
theorem seW {w : Wd} {s : State} {H : Heap} {locs : List Loc} {t0 : Nat} (hE : SE w s s.heap) (hs : s.heap.size = wz w + (t0 - 2)) (hS : va_S (wA w) s.heap H locs) : SE w s H := SE.kept (by omega) hS.2.1 hE
/-- what a method finds -/
def Bp (w : Wd) (h : Hp) (U : State) : Prop := SE w U U.heap ∧ HPr w h U.heap ∧ U.heap.size = wz w + (hTop h - 2)
/-- what it leaves -/
def Qo (w : Wd) (out : Option AV × Hp) : Array Value → State → Outcome → State → Prop := fun _ st o t => o = .returned (out.1.map (cv w)) ∧ HPr w out.2 t.heap ∧ va_F (wA w) st t
def MOk (M : MT) : Prop := plainFor (mY M) = true ∧ Cond.code (mY M) (mB M) (mL M) (mR M) ∈ GW ∧ Cond.initialized (mY M).cls ∈ GW ∧ ((mY M).cls ≠ "java/lang/invoke/MethodHandle" ∧ (mY M).cls ≠ "java/lang/invoke/VarHandle")
def mWs (M : MT) : List Cond := Cond.code (mY M) (mB M) (mL M) (mR M) :: GW
theorem goodGW {ws : List Cond} (h : ∀ c ∈ ws, c ∈ GW) : GoodIn GW ws := fun c hc => ⟨h c hc, good_of_word (List.mem_filter.mp (h c hc)).2⟩
theorem mWs_in {M : MT} (hM : MOk M) : ∀ c ∈ mWs M, c ∈ GW := fun c hc => (List.mem_cons.mp hc).elim (fun q => by rw [q]; exact hM.2.1) (fun q => q)
theorem Bp.blind (w : Wd) (h : Hp) (av : List Value) : FrameBlind (va_Pc av (Bp w h)) := fun a U g mk q => ⟨q.1, SE.same (u := U) (U := U.calling g mk a) rfl q.2.1, q.2.2.1, q.2.2.2⟩
theorem met_of {M : MT} {vs : List AV} {h : Hp} {out : Option AV × Hp} (w : Wd) (hM : MOk M) (hlen : (la0 vs).length ≤ mL M) (hE : Ev M vs h out) :
    Met (wL w) (mY M) (mWs M) ({ frames := mF M, cells := hTop out.2 - hTop h, slots := hUsed out.2 - hUsed h, locals := mW M }) (va_Pc (vs.map (cv w)) (Bp w h)) (Qo w out) (hTop out.2 - hTop h) (hUsed out.2 - hUsed h) (wA w) := by
  refine va_MetF (cc := mB M) (maxL := mL M) (ret := mR M) hM.1 rfl ?_
  intro p e s m args below meth c s₁ B hml hv
  obtain ⟨rfl, hSE, hHP, hsz⟩ := hv
  have hx := B.exec
  have hb := B.bytes
  have hr := B.returns
  have hts := atoms_spec (ws := mWs M) B.pre
  have hown : s.vm.findClass (mY M).cls = some m.cls := findClass_of_methodNamed B.named
  have hlocks := B.notSynchronized
  have hin : meth.name = (mY M).name := (name_of_methodNamed B.named B.method).1
  have hl := lv_entry (vs.map (cv w)) (n := mL M) (by rw [la0_sl]; exact hlen)
  rw [lg_entry_eq]
  generalize (lg_sl (vs.map (cv w)) ++ List.replicate (mL M - (lg_sl (vs.map (cv w))).length) Slot.unset).toArray = ls at hl ⊢
  have hG := hE.2.2 w p e ({ frames := mF M, cells := hTop out.2 - hTop h, slots := hUsed out.2 - hUsed h, locals := mW M } : Room) s m _ below meth c (MQ below (Qo w out) (vs.map (cv w)).toArray s (hTop out.2 - hTop h) (hUsed out.2 - hUsed h) (wA w)) (hTop h) (hUsed h)
    ⟨hx, hb, hml, hown, fun q hq => hts q (List.mem_cons_of_mem _ hq), hSE, hsz, hHP.1, fun q => hin.trans q, Nat.le_refl _, Nat.le_refl _⟩ (Nat.le_refl _) (Nat.le_refl _) (Nat.le_refl _) (Nat.le_refl _) ?_ s.heap [] ls hHP va_S.rf (LV.start hl)
  · rw [Nat.sub_self, Nat.sub_self] at hG
    exact hG
  · intro pc ls H locs hH hS
    refine ⟨fun x ho ht hd => ?_, fun x ho ht hd => ?_, fun x ho ht hd => ?_, fun ho ht hd => ?_⟩
    · obtain ⟨ty, hty, hn⟩ := ht
      exact W.zret (v := x) (ty := ty) hx hb (by rw [hr]; exact hty) hn (fun t ht hW => ⟨by rw [ho]; rfl, by rw [ht]; exact hH, hS.F ht⟩) hS.2.2 hd
    · exact W.lret (v := x) hx hb (by rw [hr]; exact ht) (fun t ht hW => ⟨by rw [ho]; rfl, by rw [ht]; exact hH, hS.F ht⟩) hS.2.2 hd
    · obtain ⟨rt, hrt, hor⟩ := ht
      exact W.aret (v := cv w (aA x)) (rt := rt) hx hb (by rw [hr]; exact hrt) hor (cv_A_or w x) (fun t ht hW => ⟨by rw [ho]; rfl, by rw [ht]; exact hH, hS.F ht⟩) hS.2.2 hd
    · exact W.vret hx hb (by rw [hr]; exact ht) (fun t ht hW => ⟨by rw [ho]; rfl, by rw [ht]; exact hH, hS.F ht⟩) hS.2.2 hd
theorem go_ireturn {M : MT} {h : Hp} {pc : Nat} {loc : List (Option AV)} {x : Int32} (hd : decode (mB M) pc = .ok (.ireturn, 1)) (ht : tyI M x) : Go M (some (aI x), h) pc loc [aI x] h :=
  ⟨Nat.le_refl _, Nat.le_refl _, fun w p e R s m args below meth c Q t0 u0 C a1 a2 a3 a4 K H locs ls hH hS hl => (K pc ls H locs hH hS).1 x rfl ht hd⟩
theorem go_lreturn {M : MT} {h : Hp} {pc : Nat} {loc : List (Option AV)} {x : Int64} (hd : decode (mB M) pc = .ok (.lreturn, 1)) (ht : mR M = some .long) : Go M (some (aL x), h) pc loc [aL x] h :=
  ⟨Nat.le_refl _, Nat.le_refl _, fun w p e R s m args below meth c Q t0 u0 C a1 a2 a3 a4 K H locs ls hH hS hl => (K pc ls H locs hH hS).2.1 x rfl ht hd⟩
theorem go_areturn {M : MT} {h : Hp} {pc : Nat} {loc : List (Option AV)} {x : Nat} (hd : decode (mB M) pc = .ok (.areturn, 1)) (ht : ∃ rt, mR M = some rt ∧ ((∃ n, rt = .object n) ∨ ∃ t, rt = .array t)) : Go M (some (aA x), h) pc loc [aA x] h :=
  ⟨Nat.le_refl _, Nat.le_refl _, fun w p e R s m args below meth c Q t0 u0 C a1 a2 a3 a4 K H locs ls hH hS hl => (K pc ls H locs hH hS).2.2.1 x rfl ht hd⟩
theorem go_return {M : MT} {h : Hp} {pc : Nat} {loc : List (Option AV)} (hd : decode (mB M) pc = .ok (.return_, 1)) (ht : mR M = none) : Go M (none, h) pc loc [] h :=
  ⟨Nat.le_refl _, Nat.le_refl _, fun w p e R s m args below meth c Q t0 u0 C a1 a2 a3 a4 K H locs ls hH hS hl => (K pc ls H locs hH hS).2.2.2 rfl ht hd⟩
/-- behind a call -/
theorem call_go {w : Wd} {p : Program} {l : Launch} {e : Env} {R : Room} {s : State} {m : MethodId} {args : Array Value} {below : List Frame} {meth : Method} {c : Code} {H : Heap} {locs : List Loc} {cells slots mc ms pc : Nat} {ls : Array Slot} {st0 rest : List Value} {a : Array Value} {o1 : Option AV × Hp} {Q : State → Prop} (hr : va_Run p l e R s m args below meth c H locs cells slots mc ms (F0 m pc ls st0) rest (Qo w o1 a) (wA w)) (hz0 : wz w ≤ s.heap.size) (hS : va_S (wA w) s.heap H locs)
    (kk : ∀ (H1 : Heap) (locs1 : List Loc), HPr w o1.2 H1 → va_S (wA w) s.heap H1 locs1 → W p l e R s m args below meth c H1 locs1 (cells + mc) (slots + ms) Q (F0 m (pc + 3) ls ((o1.1.map (cv w)).toList ++ rest))) : W p l e R s m args below meth c H locs cells slots Q (F0 m pc ls st0) := by
  intro T hT X
  obtain ⟨v, st₀, t, T', L, h0, X', hL, e1, e2, ⟨hv, hp, hz, hk⟩, st⟩ := hr T hT X
  cases hv
  rw [h0] at hz hk
  obtain ⟨t2, a1, b1⟩ := kk T'.heap (locs ++ L) (by rw [e1]; exact hp)
    ⟨Nat.le_trans hS.1 (by rw [e1]; exact hz), fun q h1 h2 => by rw [e1, hk q (Nat.lt_of_lt_of_le h1 hS.1) h2]; exact hS.2.1 q h1 h2, fun q hq => by
      rcases List.mem_append.mp hq with h | h
      · exact hS.2.2 q h
      · exact hL q h⟩ T' rfl X'
  exact ⟨t2, st t2 a1, b1⟩
def wt : List AV → Nat
  | [] => 0
  | .inr (.inl _) :: l => 2 + wt l
  | _ :: l => 1 + wt l
theorem wt_eq (w : Wd) : ∀ l : List AV, ((l.map (cv w)).map fun v => v.category).sum = wt l := by
  intro l
  induction l with
  | nil => rfl
  | cons x l ih =>
    rw [List.map_cons, List.map_cons, List.sum_cons, ih]
    rcases x with x | x | x
    · rfl
    · rfl
    · rw [cat_A]; rfl
/-- a place from which M calls M2, of n words -/
def SiteV (M : MT) (idx : Nat) (M2 : MT) (n : Nat) : Prop := Cond.methodLink (mY M).cls idx (mY M2) ∈ GW ∧ Cond.instanceMethod (mY M2) ∈ GW ∧ Cond.selects (mY M2).cls (mY M2) (mY M2) ∈ GW ∧ (parseMethodDescriptor (mY M2).desc).map (fun d => d.parameters.length) = some n ∧ mF M2 + 1 ≤ mF M ∧ 8 + (mL M2 + 11) + mW M2 ≤ mW M
def SiteS (M : MT) (idx : Nat) (M2 : MT) (n : Nat) : Prop := Cond.methodLink (mY M).cls idx (mY M2) ∈ GW ∧ Cond.static (mY M2) ∈ GW ∧ (parseMethodDescriptor (mY M2).desc).map (fun d => d.parameters.length) = some n ∧ mF M2 + 1 ≤ mF M ∧ 8 + (mL M2 + 11) + mW M2 ≤ mW M
def SiteI (M : MT) (idx : Nat) (M2 : MT) (n : Nat) (host : Option String) : Prop := (match host with | none => Cond.methodLink (mY M).cls idx (mY M2) ∈ GW | some q => ((mY M).cls, idx, mY M2, q) ∈ nestL) ∧ Cond.instanceMethod (mY M2) ∈ GW ∧ (mY M2).name = "<init>" ∧ mR M2 = none ∧ (parseMethodDescriptor (mY M2).desc).map (fun d => d.parameters.length) = some n ∧ mF M2 + 1 ≤ mF M ∧ 8 + (mL M2 + 11) + mW M2 ≤ mW M
theorem Cx.fix {w : Wd} {M : MT} {p : Program} {s : State} {m : MethodId} {args : Array Value} {meth : Method} {c : Code} {R : Room} {t0 : Nat} (C : Cx w M p s m args meth c R t0) : CallFix p m c (mB M) (mL M) s args GW (mY M).cls := ⟨C.1, C.2.1, C.2.2.1, C.2.2.2.1, C.2.2.2.2.1⟩
/-- a step that calls -/
theorem Go.call {M M2 : MT} {out o1 : Option AV × Hp} {pc : Nat} {loc : List (Option AV)} {stk st0 : List AV} {h : Hp} {vs : List AV} (hM : MOk M2) (hlen : (la0 vs).length ≤ mL M2) (hE : Ev M2 vs h o1) (k : Go M out (pc + 3) loc (o1.1.toList ++ stk) o1.2)
    (f : ∀ (w : Wd) (p : Program) (e : Env) (R : Room) (s : State) (m : MethodId) (args : Array Value) (below : List Frame) (meth : Method) (c : Code) (t0 n1 n2 mc ms : Nat) (H : Heap) (locs : List Loc) (ls : Array Slot) (rm : Room) (Qc : Array Value → State → Outcome → State → Prop),
      Cx w M p s m args meth c R t0 → HPr w h H → va_S (wA w) s.heap H locs → ls.size = mL M → Met (wL w) (mY M2) (mWs M2) rm (va_Pc (vs.map (cv w)) (Bp w h)) Qc mc ms (wA w) → rm.cells = mc → rm.slots = ms → rm.frames = mF M2 → rm.locals = mW M2 → n1 + mc ≤ R.cells ∧ n2 + ms ≤ R.slots → (∀ U : State, U.heap = H → s.WarmedH U.vm → va_Pc (vs.map (cv w)) (Bp w h) (vs.map (cv w)).toArray U) →
      va_Run p (wL w) e R s m args below meth c H locs n1 n2 mc ms (F0 m pc ls (st0.map (cv w))) (stk.map (cv w)) (Qc (vs.map (cv w)).toArray) (wA w)) : Go M out pc loc st0 h := by
  refine ⟨Nat.le_trans hE.1 k.1, Nat.le_trans hE.2.1 k.2.1, fun w p e R s m args below meth c Q t0 u0 C a1 a2 a3 a4 K H locs ls hH hS hl => ?_⟩
  have b1 := hE.1
  have b2 := hE.2.1
  have b3 := k.1
  have b4 := k.2.1
  intro T hT X
  have hsz := szW (w := w) (h := h) X hT (Nat.le_refl _) C.2.2.2.2.2.2.1 C.2.2.2.2.2.2.2.1 a1 hH hS
  have hSE := seW C.2.2.2.2.2.1 C.2.2.2.2.2.2.1 hS
  have hR := f w p e R s m args below meth c t0 (hTop h - t0) (hUsed h - u0) _ _ H locs ls _ _ C hH hS hl.1 (met_of w hM hlen hE) rfl rfl rfl rfl ⟨by omega, by omega⟩ (fun U hU hW => ⟨rfl, by rw [hU]; exact SE.warm hW hSE, by rw [hU]; exact hH, by rw [hU]; exact hsz⟩)
  refine call_go hR (by have := C.2.2.2.2.2.2.1; omega) hS (fun H1 locs1 hH1 hS1 => ?_) T hT X
  have g := k.2.2 w p e R s m args below meth c Q t0 u0 C (by omega) (by omega) a3 a4 K H1 locs1 ls hH1 hS1 hl
  rw [show hTop h - t0 + (hTop o1.2 - hTop h) = hTop o1.2 - t0 by omega, show hUsed h - u0 + (hUsed o1.2 - hUsed h) = hUsed o1.2 - u0 by omega]
  rw [List.map_append] at g
  have e9 : (o1.1.map (cv w)).toList = o1.1.toList.map (cv w) := by cases o1.1 <;> rfl
  rw [e9]
  exact g
theorem go_callS {M M2 : MT} {out o1 : Option AV × Hp} {pc idx n : Nat} {loc : List (Option AV)} {stk st0 : List AV} {h : Hp} {vs : List AV} (hM : MOk M2) (hs : SiteS M idx M2 n) (hd : decode (mB M) pc = .ok (.invokestatic idx, 3)) (hst : st0 = vs.reverse ++ stk) (hn : vs.length = n) (hlen : (la0 vs).length ≤ mL M2) (hw : wt stk ≤ 8) (hE : Ev M2 vs h o1) (k : Go M out (pc + 3) loc (o1.1.toList ++ stk) o1.2) : Go M out pc loc st0 h := by
  subst hst
  refine Go.call hM hlen hE k fun w p e R s m args below meth c t0 n1 n2 mc ms H locs ls rm Qc C hH hS hls hMet q1 q2 q3 q4 hf hPc => ?_
  obtain ⟨s1, s2, s3, s4, s5⟩ := hs
  have r1 := C.2.2.2.2.2.2.2.2.2.1
  have r2 := C.2.2.2.2.2.2.2.2.2.2
  have cw := va_cwS (R := R) (s := s) (args := args) (own := (mY M).cls) (index := idx) (y := mY M2) (bytes := mB M2) (maxL := mL M2) (mc := mc) (ms := ms) (ret := mR M2) (Ts := GW) (ws := mWs M2) (ws' := GW) (rm := rm) n C.2.2.2.2.1 (goodGW (by
    intro q hq
    unfold va_wsS at hq
    rcases List.mem_append.mp hq with hq | hq
    · simp only [List.mem_cons, List.not_mem_nil, or_false] at hq
      rcases hq with rfl | rfl | rfl
      · exact s1
      · exact s2
      · exact hM.2.2.1
    · exact mWs_in hM q hq)) rfl q1 q2 ⟨hM.2.2.2.1, hM.2.2.2.2, s3⟩ ⟨by rw [q3]; omega, by rw [q4]; omega⟩
  exact va_runS (As := vs.map (cv w)) (rest := stk.map (cv w)) C.fix hMet cw ⟨Bp.blind w h _, hPc⟩ rfl (by rw [List.length_map]; exact hn) hls (by simp [F0]) (lv_room (by rw [wt_eq]; exact hw)) hd hf
theorem Go.callV {M M2 : MT} {out o1 : Option AV × Hp} {pc idx n o : Nat} {loc : List (Option AV)} {stk st0 : List AV} {h : Hp} {vs : List AV} (hM : MOk M2) (hs : SiteV M idx M2 n) (hd : decode (mB M) pc = .ok (.invokevirtual idx, 3)) (hst : st0 = vs.reverse ++ aA o :: stk) (hn : vs.length = n) (hlen : (la0 (aA o :: vs)).length ≤ mL M2) (hw : wt stk ≤ 8) (hE : Ev M2 (aA o :: vs) h o1) (k : Go M out (pc + 3) loc (o1.1.toList ++ stk) o1.2)
    (hrc : ∀ (w : Wd) (s : State) (H : Heap) (locs : List Loc), SE w s s.heap → HPr w h H → va_S (wA w) s.heap H locs → ∃ a : Nat, ad w o = some a ∧ ∃ cell : Cell, H[a]? = some cell ∧ cell.vm.isStatics = false ∧ s.vm.findClass (mY M2).cls = some cell.cls) : Go M out pc loc st0 h := by
  subst hst
  refine Go.call hM hlen hE k fun w p e R s m args below meth c t0 n1 n2 mc ms H locs ls rm Qc C hH hS hls hMet q1 q2 q3 q4 hf hPc => ?_
  obtain ⟨s1, s2, s3, s4, s5, s6⟩ := hs
  have r1 := C.2.2.2.2.2.2.2.2.2.1
  have r2 := C.2.2.2.2.2.2.2.2.2.2
  obtain ⟨a, ha, hcell⟩ := hrc w s H locs C.2.2.2.2.2.1 hH hS
  have e9 : cv w (aA o) = .ref a := by show va_rf (ad w o) = _; rw [ha]; rfl
  have cw := cwV (R := R) (s := s) (args := args) (own := (mY M).cls) (C := (mY M2).cls) (index := idx) (y := mY M2) (bytes := mB M2) (maxL := mL M2) (mc := mc) (ms := ms) (ret := mR M2) (Ts := GW) (ws := mWs M2) (ws' := GW) (rm := rm) n C.2.2.2.2.1 (goodGW (by
    intro q hq
    unfold wsV at hq
    rcases List.mem_append.mp hq with hq | hq
    · simp only [List.mem_cons, List.not_mem_nil, or_false] at hq
      rcases hq with rfl | rfl | rfl | rfl
      · exact s1
      · exact s2
      · exact s3
      · exact hM.2.2.1
    · exact mWs_in hM q hq)) rfl q1 q2 ⟨rfl, hM.2.2.2.1, hM.2.2.2.2, s4⟩ ⟨by rw [q3]; omega, by rw [q4]; omega⟩
  rw [List.map_cons, e9] at hMet hPc ⊢
  exact va_runV (As := vs.map (cv w)) (rest := stk.map (cv w)) (C := (mY M2).cls) (b := a) C.fix hMet cw ⟨Bp.blind w h _, hcell, hPc⟩ rfl (by rw [List.length_map]; exact hn) hls (by simp [F0, e9]) (lv_room (by rw [wt_eq]; exact hw)) hd hf
theorem go_callV {M M2 : MT} {out o1 : Option AV × Hp} {pc idx n o t : Nat} {loc : List (Option AV)} {stk st0 : List AV} {h : Hp} {vs : List AV} {C : String} {T : u_T} {N : Nat} {ty : Nat → FieldType} (hM : MOk M2) (hs : SiteV M idx M2 n) (hC : ClOk t C T N ty) (hcls : C = (mY M2).cls) (hd : decode (mB M) pc = .ok (.invokevirtual idx, 3)) (ht : hTag h o = t) (hst : st0 = vs.reverse ++ aA o :: stk) (hn : vs.length = n) (hlen : (la0 (aA o :: vs)).length ≤ mL M2) (hw : wt stk ≤ 8) (hE : Ev M2 (aA o :: vs) h o1) (k : Go M out (pc + 3) loc (o1.1.toList ++ stk) o1.2) : Go M out pc loc st0 h := by
  refine Go.callV hM hs hd hst hn hlen hw hE k fun w s H locs hE hH hS => ?_
  obtain ⟨g2, g3, g4⟩ := hH.made ht hC.2.2.1
  subst hcls
  exact ⟨_, ad_made g2 g4, va_recv (q := (_, T, N)) hE.1 hH.2.2.2.2.1 hC.1 (by rw [world_get g2 g3, ent_obj ht hC.2.1])⟩
theorem go_callI {M M2 : MT} {out o1 : Option AV × Hp} {pc idx n o t : Nat} {loc : List (Option AV)} {stk st0 : List AV} {h : Hp} {vs : List AV} {host : Option String} (hM : MOk M2) (hs : SiteI M idx M2 n host) (hd : decode (mB M) pc = .ok (.invokespecial idx, 3)) (ht : hTag h o = t) (h0 : t ≠ 0) (hst : st0 = vs.reverse ++ aA o :: stk) (hn : vs.length = n) (hlen : (la0 (aA o :: vs)).length ≤ mL M2) (hw : wt stk ≤ 8) (hE : Ev M2 (aA o :: vs) h o1) (k : Go M out (pc + 3) loc (o1.1.toList ++ stk) o1.2) : Go M out pc loc st0 h := by
  subst hst
  refine Go.call hM hlen hE k fun w p e R s m args below meth c t0 n1 n2 mc ms H locs ls rm Qc C hH hS hls hMet q1 q2 q3 q4 hf hPc => ?_
  obtain ⟨s1, s2, s3, s7, s4, s5, s6⟩ := hs
  have r1 := C.2.2.2.2.2.2.2.2.2.1
  have r2 := C.2.2.2.2.2.2.2.2.2.2
  obtain ⟨g2, g3, g4⟩ := hH.made ht h0
  have hws : mWs M2 = Cond.code (mY M2) (mB M2) (mL M2) none :: GW := by unfold mWs; rw [s7]
  have hR : rm.frames + 1 ≤ R.frames ∧ 8 + (mL M2 + 11) + rm.locals ≤ R.locals := ⟨by rw [q3]; omega, by rw [q4]; omega⟩
  rw [List.map_cons, cv_made g2 g4] at hMet hPc ⊢
  cases host with
  | none =>
    have cw := cwI (R := R) (s := s) (args := args) (own := (mY M).cls) (index := idx) (y := mY M2) (bytes := mB M2) (maxL := mL M2) (mc := mc) (ms := ms) (Ts := GW) (ws := mWs M2) (ws' := GW) (rm := rm) n C.2.2.2.2.1 (goodGW (mWs_in hM)) hws q1 q2 (C.2.2.2.2.1 _ hM.2.2.1) (C.2.2.2.2.1 _ s1) (C.2.2.2.2.1 _ s2) s3 ⟨hM.2.2.2.1, hM.2.2.2.2, s4⟩ hR
    exact va_runI (As := vs.map (cv w)) (rest := stk.map (cv w)) (b := wz w + (o - 2)) C.fix hMet cw ⟨Bp.blind w h _, hPc⟩ rfl (by rw [List.length_map]; exact hn) hls (by simp [F0, cv_made g2 g4]) (lv_room (by rw [wt_eq]; exact hw)) hd hf
  | some q =>
    have cw := va_cnB (R := R) (s := s) (args := args) (own := (mY M).cls) (host := q) (index := idx) (y := mY M2) (bytes := mB M2) (maxL := mL M2) (ret := none) (mc := mc) (ms := ms) (Ts := GW) (ws := mWs M2) (ws' := GW) (rm := rm) n C.2.2.2.2.1 (goodGW (mWs_in hM)) hws q1 q2 (C.2.2.2.2.2.1.2.2.2.2.2.2.2.1 _ s1) (C.2.2.2.2.1 _ hM.2.2.1) ⟨hM.2.2.2.1, hM.2.2.2.2, s4⟩ hR
    exact va_runIN (As := vs.map (cv w)) (rest := stk.map (cv w)) (b := wz w + (o - 2)) C.fix hMet ⟨cw, s3, C.2.2.2.2.1 _ s2⟩ ⟨Bp.blind w h _, hPc⟩ rfl (by rw [List.length_map]; exact hn) hls (by simp [F0, cv_made g2 g4]) (lv_room (by rw [wt_eq]; exact hw)) hd hf
theorem go_objInit {M : MT} {out : Option AV × Hp} {pc idx o t : Nat} {loc : List (Option AV)} {stk : List AV} {h : Hp} (hs : Cond.methodLink (mY M).cls idx objectInit ∈ GW ∧ Cond.instanceMethod objectInit ∈ GW ∧ Cond.code objectInit ⟨#[0xb1]⟩ 1 none ∈ GW ∧ 1 ≤ mF M ∧ 20 ≤ mW M) (hd : decode (mB M) pc = .ok (.invokespecial idx, 3)) (ht : hTag h o = t) (h0 : t ≠ 0) (hw : wt stk ≤ 8) (k : Go M out (pc + 3) loc stk h) : Go M out pc loc (aA o :: stk) h := by
  refine k.st fun w p e R s m args below meth c Q t0 H locs ls n1 n2 C hH hS hl kk => ?_
  obtain ⟨g2, g3, g4⟩ := hH.made ht h0
  have r1 := C.2.2.2.2.2.2.2.2.2.1
  have r2 := C.2.2.2.2.2.2.2.2.2.2
  simp only [List.map_cons]
  rw [cv_made g2 g4]
  refine W.objInit C.1 C.2.1 C.2.2.2.1 (C.2.2.2.2.1 _ hs.1) (C.2.2.2.2.1 _ hs.2.1) (C.2.2.2.2.1 _ hs.2.2.1) rfl (by rw [C.2.2.1]; exact hl.1) (a := wz w + (o - 2)) (rest := stk.map (cv w)) rfl hd (by omega) (by rw [wt_eq]; show 2 * 0 + wt stk + 12 ≤ _; omega) ?_
  exact W.eq (g2 := F0 m (pc + 3) ls (stk.map (cv w))) rfl (kk ls hl)
