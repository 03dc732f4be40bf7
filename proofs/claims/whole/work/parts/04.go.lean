/-- what stays true of a launch's tables and of what was there before -/
def SE (w : Wd) (U : State) (H : Heap) : Prop :=
  va_K (wD w) vwCl (tysL w) U ∧ wb w < wz w ∧ va_X (wb w) (wn w) (wxs w) U H ∧ vk_S stL.length stLen stByt (wK w) (wV w) (wA w) U H ∧
  va_Z "java/lang/String" "COMPACT_STRINGS" "Z" (.int 1) (wA w) U H ∧ va_Z "jdk/internal/util/Preconditions" "SIOOBE_FORMATTER" "Ljava/util/function/BiFunction;" (va_rf (wfm w)) (wA w) U H ∧
  (∀ i : Nat, i < stL.length → vk_R (stL.getD i ("", 0, "")).1 (stL.getD i ("", 0, "")).2.1 (stL.getD i ("", 0, "")).2.2 (wK w i) U) ∧
  (∀ q ∈ nestL, va_Nw (.methodLinkNest q.1 q.2.1 q.2.2.1 q.2.2.2) U) ∧ (∀ C ∈ aoL, va_AO C U)
theorem SE.same {w : Wd} {u U : State} {H : Heap} (hv : U.vm = u.vm) (h : SE w u H) : SE w U H := by
  have hal : u.vm.Alike U.vm := by rw [hv]; exact Vm.Alike.refl _
  obtain ⟨h1, h2, h3, h4, h5, h6, h7, h8, h9⟩ := h
  exact ⟨va_K.moved hal h1, h2, va_X.moved hal h3, vk_S.moved hal h4, va_Z.moved hal h5, va_Z.moved hal h6, fun i hi => vk_R.same hv (h7 i hi), fun q hq => va_Nw.same rfl hv.symm (h8 q hq), fun C hC => va_AO.moved hal (h9 C hC)⟩
theorem SE.warm {w : Wd} {s U : State} {H : Heap} (hW : s.WarmedH U.vm) (h : SE w s H) : SE w U H := by
  obtain ⟨h1, h2, h3, h4, h5, h6, h7, h8, h9⟩ := h
  exact ⟨va_K.moved hW.alike h1, h2, va_X.moved hW.alike h3, vk_S.moved hW.alike h4, va_Z.moved hW.alike h5, va_Z.moved hW.alike h6, fun i hi => vk_R.warm hW (h7 i hi), fun q hq => va_Nw.warmM hW (h8 q hq), fun C hC => va_AO.moved hW.alike (h9 C hC)⟩
theorem SE.kept {w : Wd} {U : State} {H H1 : Heap} (hz : wz w ≤ H.size) (hq : ∀ a : Nat, a < H.size → ¬ wA w a → H1[a]? = H[a]?) (h : SE w U H) : SE w U H1 := by
  obtain ⟨h1, h2, h3, h4, h5, h6, h7, h8, h9⟩ := h
  exact ⟨h1, h2, va_X.kept h3 (hq _ (Nat.lt_of_lt_of_le h2 hz) (Nat.not_le.mpr h2)), vk_S.kept h4 hq, va_Z.kept h5 hq, va_Z.kept h6 hq, h7, h8, h9⟩
/-- a method: name, bytes, words, what it gives, frames, words below it -/
abbrev MT : Type := MethodName × ByteArray × Nat × Option FieldType × Nat × Nat
def mY (M : MT) : MethodName := M.1
def mB (M : MT) : ByteArray := M.2.1
def mL (M : MT) : Nat := M.2.2.1
def mR (M : MT) : Option FieldType := M.2.2.2.1
def mF (M : MT) : Nat := M.2.2.2.2.1
def mW (M : MT) : Nat := M.2.2.2.2.2
/-- the tables' words that stay true in every state of a walk -/
def GW : List Cond := lw_tbl.filter goodWord
theorem inG {c : Cond} (i : Nat) (h : lw_tbl[i]? = some c) (g : goodWord c = true) : c ∈ GW := List.mem_filter.mpr ⟨List.mem_of_getElem? h, g⟩
/-- the words of one frame -/
def LV (w : Wd) (ls : Array Slot) (n : Nat) (loc : List (Option AV)) : Prop := ls.size = n ∧ lv_wf ls ∧ ∀ (k : Nat) (v : AV), loc[k]? = some (some v) → ls[k]? = some (.val (cv w v))
def toA (w : Wd) (loc : List (Option AV)) : List (Nat × Value) := (List.range loc.length).filterMap (fun k => (loc.getD k none).map (fun v => (k, cv w v)))
def isLong : Option AV → Bool
  | some (.inr (.inl _)) => true
  | _ => false
def stI (loc : List (Option AV)) (i : Nat) (v : AV) : List (Option AV) := match i with
  | 0 => loc.set 0 (some v)
  | j + 1 => if isLong (loc.getD j none) = true then (loc.set j none).set (j + 1) (some v) else loc.set (j + 1) (some v)
def stL2 (loc : List (Option AV)) (i : Nat) (v : AV) : List (Option AV) := (stI loc i v).set (i + 1) none
def mk (bs : List Bool) (loc : List (Option AV)) : List (Option AV) := match bs, loc with
  | b :: bs, v :: loc => (if b = true then v else none) :: mk bs loc
  | _, _ => []
theorem mk_get : ∀ (bs : List Bool) (loc : List (Option AV)) (k : Nat) (v : AV), (mk bs loc)[k]? = some (some v) → loc[k]? = some (some v) := by
  intro bs
  induction bs with
  | nil => intro loc k v h; cases loc <;> simp [mk] at h
  | cons b bs ih =>
    intro loc k v h
    cases loc with
    | nil => simp [mk] at h
    | cons x loc =>
      cases k with
      | zero =>
        cases b
        · simp [mk] at h
        · simpa [mk] using h
      | succ k =>
        have h' : (mk bs loc)[k]? = some (some v) := by simpa [mk] using h
        simpa using ih loc k v h'
theorem LV.mask {w : Wd} {ls : Array Slot} {n : Nat} {loc : List (Option AV)} (bs : List Bool) (h : LV w ls n loc) : LV w ls n (mk bs loc) := ⟨h.1, h.2.1, fun k v hk => h.2.2 k v (mk_get bs loc k v hk)⟩
theorem LV.has {w : Wd} {ls : Array Slot} {n : Nat} {loc : List (Option AV)} (h : LV w ls n loc) : lv_has ls n (toA w loc) := by
  refine ⟨h.1, h.2.1, fun q hq => ?_⟩
  obtain ⟨k, hk, he⟩ := List.mem_filterMap.mp hq
  cases hx : loc.getD k none with
  | none => rw [hx] at he; cases he
  | some v =>
    rw [hx] at he
    cases he
    have hk' := List.mem_range.mp hk
    refine h.2.2 k v ?_
    rw [List.getD_eq_getElem?_getD] at hx
    rw [List.getElem?_eq_getElem hk'] at hx ⊢
    exact congrArg some hx
theorem toA_mem {w : Wd} {loc : List (Option AV)} {k : Nat} {v : AV} (h : loc[k]? = some (some v)) : (k, cv w v) ∈ toA w loc := by
  have hk : k < loc.length := (List.getElem?_eq_some_iff.mp h).1
  refine List.mem_filterMap.mpr ⟨k, List.mem_range.mpr hk, ?_⟩
  rw [List.getD_eq_getElem?_getD, h]
  rfl
theorem cv_cat {w : Wd} (v : AV) : ((cv w v).category == 2) = isLong (some v) := by
  rcases v with x | x | x
  · rfl
  · rfl
  · show ((va_rf (ad w x)).category == 2) = false
    cases ad w x <;> rfl
theorem stI_get {loc : List (Option AV)} {i k : Nat} {v u : AV} (h : (stI loc i v)[k]? = some (some u)) : (k = i ∧ u = v) ∨ (k ≠ i ∧ loc[k]? = some (some u) ∧ ¬ (k + 1 = i ∧ isLong (some u) = true)) := by
  cases i with
  | zero =>
    by_cases hk : k = 0
    · subst hk
      have hl : (0 : Nat) < loc.length := by
        have := (List.getElem?_eq_some_iff.mp h).1
        simpa [stI] using this
      simp only [stI] at h
      rw [List.getElem?_set_self hl] at h
      exact Or.inl ⟨rfl, (Option.some.inj (Option.some.inj h)).symm⟩
    · simp only [stI] at h
      rw [List.getElem?_set_ne (fun q => hk q.symm)] at h
      exact Or.inr ⟨hk, h, fun q => by omega⟩
  | succ j =>
    simp only [stI] at h
    by_cases hL : isLong (loc.getD j none) = true
    · rw [if_pos hL] at h
      by_cases hk : k = j + 1
      · subst hk
        have hl : j + 1 < loc.length := by
          have := (List.getElem?_eq_some_iff.mp h).1
          simpa using this
        rw [List.getElem?_set_self (by simpa using hl)] at h
        exact Or.inl ⟨rfl, (Option.some.inj (Option.some.inj h)).symm⟩
      · rw [List.getElem?_set_ne (fun q => hk q.symm)] at h
        by_cases hj : k = j
        · subst hj
          have hl : k < loc.length := by
            have := (List.getElem?_eq_some_iff.mp h).1
            simpa using this
          rw [List.getElem?_set_self hl] at h
          cases Option.some.inj h
        · rw [List.getElem?_set_ne (fun q => hj q.symm)] at h
          exact Or.inr ⟨hk, h, fun q => by omega⟩
    · rw [if_neg hL] at h
      by_cases hk : k = j + 1
      · subst hk
        have hl : j + 1 < loc.length := by
          have := (List.getElem?_eq_some_iff.mp h).1
          simpa using this
        rw [List.getElem?_set_self hl] at h
        exact Or.inl ⟨rfl, (Option.some.inj (Option.some.inj h)).symm⟩
      · rw [List.getElem?_set_ne (fun q => hk q.symm)] at h
        refine Or.inr ⟨hk, h, fun q => hL ?_⟩
        have hkj : k = j := by omega
        subst hkj
        rw [List.getD_eq_getElem?_getD, h]
        exact q.2
theorem LV.st1 {w : Wd} {ls : Array Slot} {n i : Nat} {loc : List (Option AV)} {v : AV} (h : lv_has ls n ((i, cv w v) :: (toA w loc).filter (fun q => !(q.1 == i) && !(q.1 + 1 == i && q.2.category == 2)))) : LV w ls n (stI loc i v) := by
  refine ⟨h.1, h.2.1, fun k u hk => ?_⟩
  rcases stI_get hk with ⟨rfl, rfl⟩ | ⟨h1, h2, h3⟩
  · exact h.2.2 _ List.mem_cons_self
  · refine h.2.2 (k, cv w u) (List.mem_cons_of_mem _ (List.mem_filter.mpr ⟨toA_mem h2, ?_⟩))
    simp only [cv_cat]
    have e1 : (k == i) = false := by simpa using h1
    rw [e1]
    by_cases q1 : k + 1 = i
    · have : isLong (some u) = false := by
        cases hL : isLong (some u)
        · rfl
        · exact absurd ⟨q1, hL⟩ h3
      rw [this]
      simp
    · have : (k + 1 == i) = false := by simpa using q1
      rw [this]
      rfl
theorem LV.st2 {w : Wd} {ls : Array Slot} {n i : Nat} {loc : List (Option AV)} {v : AV} (h : lv_has ls n ((i, cv w v) :: (toA w loc).filter (fun q => !(q.1 == i) && (!(q.1 == i + 1) && !(q.1 + 1 == i && q.2.category == 2))))) : LV w ls n (stL2 loc i v) := by
  refine ⟨h.1, h.2.1, fun k u hk => ?_⟩
  unfold stL2 at hk
  have hk1 : k ≠ i + 1 := by
    intro e
    subst e
    by_cases hl : i + 1 < (stI loc i v).length
    · rw [List.getElem?_set_self hl] at hk
      cases Option.some.inj hk
    · rw [List.getElem?_eq_none (by rw [List.length_set]; omega)] at hk
      cases hk
  rw [List.getElem?_set_ne (fun q => hk1 q.symm)] at hk
  rcases stI_get hk with ⟨rfl, rfl⟩ | ⟨h1, h2, h3⟩
  · exact h.2.2 _ List.mem_cons_self
  · refine h.2.2 (k, cv w u) (List.mem_cons_of_mem _ (List.mem_filter.mpr ⟨toA_mem h2, ?_⟩))
    simp only [cv_cat]
    have e1 : (k == i) = false := by simpa using h1
    have e2 : (k == i + 1) = false := by simpa using hk1
    rw [e1, e2]
    by_cases q1 : k + 1 = i
    · have : isLong (some u) = false := by
        cases hL : isLong (some u)
        · rfl
        · exact absurd ⟨q1, hL⟩ h3
      rw [this]
      simp
    · have : (k + 1 == i) = false := by simpa using q1
      rw [this]
      rfl
/-- a frame's first words -/
def la0 : List AV → List (Option AV)
  | [] => []
  | .inr (.inl x) :: vs => some (.inr (.inl x)) :: none :: la0 vs
  | v :: vs => some v :: la0 vs
def la (vs : List AV) (n : Nat) : List (Option AV) := la0 vs ++ List.replicate (n - (la0 vs).length) none
theorem la0_args {w : Wd} : ∀ (vs : List AV) (i k : Nat) (v : AV), (la0 vs)[k]? = some (some v) → (i + k, cv w v) ∈ lv_args i (vs.map (cv w)) := by
  intro vs
  induction vs with
  | nil => intro i k v h; simp [la0] at h
  | cons x vs ih =>
    intro i k v h
    have key : ∀ (x : AV), isLong (some x) = false → (some x :: la0 vs)[k]? = some (some v) → (i + k, cv w v) ∈ lv_args i ((x :: vs).map (cv w)) := by
      intro x hx h
      have hc : ¬ (cv w x).category = 2 := by
        have := cv_cat (w := w) x
        rw [hx] at this
        simpa using this
      show (i + k, cv w v) ∈ (i, cv w x) :: lv_args (if (cv w x).category = 2 then i + 2 else i + 1) (vs.map (cv w))
      rw [if_neg hc]
      cases k with
      | zero =>
        have : x = v := by simpa using h
        subst this
        exact List.mem_cons_self
      | succ k =>
        have h' : (la0 vs)[k]? = some (some v) := by simpa using h
        have := ih (i + 1) k v h'
        rw [show i + (k + 1) = i + 1 + k by omega]
        exact List.mem_cons_of_mem _ this
    rcases x with x | x | x
    · exact key (aI x) rfl h
    · show (i + k, cv w v) ∈ (i, Value.long x) :: lv_args (if (Value.long x).category = 2 then i + 2 else i + 1) (vs.map (cv w))
      rw [if_pos (show (Value.long x).category = 2 from rfl)]
      have h : (some (aL x) :: none :: la0 vs)[k]? = some (some v) := h
      match k, h with
      | 0, h =>
        have : aL x = v := by simpa using h
        subst this
        exact List.mem_cons_self
      | 1, h => simp at h
      | k + 2, h =>
        have h' : (la0 vs)[k]? = some (some v) := by simpa using h
        have := ih (i + 2) k v h'
        rw [show i + (k + 2) = i + 2 + k by omega]
        exact List.mem_cons_of_mem _ this
    · exact key (aA x) rfl h
theorem LV.start {w : Wd} {ls : Array Slot} {n : Nat} {vs : List AV} (h : lv_has ls n (lv_args 0 (vs.map (cv w)))) : LV w ls n (la vs n) := by
  refine ⟨h.1, h.2.1, fun k v hk => ?_⟩
  unfold la at hk
  by_cases hl : k < (la0 vs).length
  · rw [List.getElem?_append_left hl] at hk
    have := la0_args (w := w) vs 0 k v hk
    rw [Nat.zero_add] at this
    exact h.2.2 _ this
  · rw [List.getElem?_append_right (by omega)] at hk
    rw [List.getElem?_replicate] at hk
    split at hk
    · cases Option.some.inj hk
    · cases hk
theorem la0_sl {w : Wd} : ∀ (vs : List AV), (lg_sl (vs.map (cv w))).length = (la0 vs).length := by
  intro vs
  induction vs with
  | nil => rfl
  | cons x vs ih =>
    have e : ∀ (v : Value) (l : List Value), lg_sl (v :: l) = (if v.category = 2 then [Slot.val v, .second] else [.val v]) ++ lg_sl l := fun v l => by simp [lg_sl]
    rw [List.map_cons, e, List.length_append, ih]
    rcases x with x | x | x
    · simp [cv, la0, Value.category]; omega
    · simp [cv, la0, Value.category]; omega
    · have : (cv w (aA x)).category = 1 := by
        show (va_rf (ad w x)).category = 1
        cases ad w x <;> rfl
      simp [this, la0]; omega
/-- the frame in which a walk stands -/
def Cx (w : Wd) (M : MT) (p : Program) (s : State) (m : MethodId) (args : Array Value) (meth : Method) (c : Code) (R : Room) (t0 : Nat) : Prop :=
  p.tables.exec = Jvm.exec ∧ c.code = mB M ∧ c.maxLocals = mL M ∧ s.vm.findClass (mY M).cls = some m.cls ∧ (∀ q ∈ GW, q.before args s = true) ∧ SE w s s.heap ∧ s.heap.size = wz w + (t0 - 2) ∧ 2 ≤ t0 ∧ ((mY M).name = "<init>" → meth.name = "<init>") ∧ mF M ≤ R.frames ∧ mW M ≤ R.locals
def tyI (M : MT) (x : Int32) : Prop := ∃ ty, mR M = some ty ∧ narrow ty (.int x) = .int x
/-- what a method's end must do -/
def Kr (w : Wd) (M : MT) (out : Option AV × Hp) (p : Program) (e : Env) (R : Room) (s : State) (m : MethodId) (args : Array Value) (below : List Frame) (meth : Method) (c : Code) (Q : State → Prop) (t0 u0 : Nat) : Prop :=
  ∀ (pc : Nat) (ls : Array Slot) (H : Heap) (locs : List Loc), HPr w out.2 H → va_S (wA w) s.heap H locs →
    (∀ x, out.1 = some (aI x) → tyI M x → decode (mB M) pc = .ok (.ireturn, 1) → W p (wL w) e R s m args below meth c H locs (hTop out.2 - t0) (hUsed out.2 - u0) Q (F0 m pc ls [.int x])) ∧
    (∀ x, out.1 = some (aL x) → mR M = some .long → decode (mB M) pc = .ok (.lreturn, 1) → W p (wL w) e R s m args below meth c H locs (hTop out.2 - t0) (hUsed out.2 - u0) Q (F0 m pc ls [.long x])) ∧
    (∀ x, out.1 = some (aA x) → (∃ rt, mR M = some rt ∧ ((∃ n, rt = .object n) ∨ ∃ t, rt = .array t)) → decode (mB M) pc = .ok (.areturn, 1) → W p (wL w) e R s m args below meth c H locs (hTop out.2 - t0) (hUsed out.2 - u0) Q (F0 m pc ls [cv w (aA x)])) ∧
    (out.1 = none → mR M = none → decode (mB M) pc = .ok (.return_, 1) → W p (wL w) e R s m args below meth c H locs (hTop out.2 - t0) (hUsed out.2 - u0) Q (F0 m pc ls []))
/-- from here the method comes to its end with 'out' -/
def Go (M : MT) (out : Option AV × Hp) (pc : Nat) (loc : List (Option AV)) (stk : List AV) (h : Hp) : Prop :=
  hTop h ≤ hTop out.2 ∧ hUsed h ≤ hUsed out.2 ∧
  ∀ (w : Wd) (p : Program) (e : Env) (R : Room) (s : State) (m : MethodId) (args : Array Value) (below : List Frame) (meth : Method) (c : Code) (Q : State → Prop) (t0 u0 : Nat),
    Cx w M p s m args meth c R t0 → t0 ≤ hTop h → u0 ≤ hUsed h → hTop out.2 - t0 ≤ R.cells → hUsed out.2 - u0 ≤ R.slots → Kr w M out p e R s m args below meth c Q t0 u0 →
    ∀ (H : Heap) (locs : List Loc) (ls : Array Slot), HPr w h H → va_S (wA w) s.heap H locs → LV w ls (mL M) loc →
      W p (wL w) e R s m args below meth c H locs (hTop h - t0) (hUsed h - u0) Q (F0 m pc ls (stk.map (cv w)))
def Ev (M : MT) (vs : List AV) (h : Hp) (out : Option AV × Hp) : Prop := Go M out 0 (la vs (mL M)) [] h
/-- a step that leaves the heap -/
theorem Go.st {M : MT} {out : Option AV × Hp} {pc pc' : Nat} {loc loc' : List (Option AV)} {stk stk' : List AV} {h : Hp} (k : Go M out pc' loc' stk' h)
    (f : ∀ (w : Wd) (p : Program) (e : Env) (R : Room) (s : State) (m : MethodId) (args : Array Value) (below : List Frame) (meth : Method) (c : Code) (Q : State → Prop) (t0 : Nat) (H : Heap) (locs : List Loc) (ls : Array Slot) (n1 n2 : Nat),
      Cx w M p s m args meth c R t0 → HPr w h H → va_S (wA w) s.heap H locs → LV w ls (mL M) loc → (∀ ls' : Array Slot, LV w ls' (mL M) loc' → W p (wL w) e R s m args below meth c H locs n1 n2 Q (F0 m pc' ls' (stk'.map (cv w)))) →
      W p (wL w) e R s m args below meth c H locs n1 n2 Q (F0 m pc ls (stk.map (cv w)))) : Go M out pc loc stk h :=
  ⟨k.1, k.2.1, fun w p e R s m args below meth c Q t0 u0 C a1 a2 a3 a4 K H locs ls hH hS hl => f w p e R s m args below meth c Q t0 H locs ls _ _ C hH hS hl (fun ls' hl' => k.2.2 w p e R s m args below meth c Q t0 u0 C a1 a2 a3 a4 K H locs ls' hH hS hl')⟩
theorem go_mask {M : MT} {out : Option AV × Hp} {pc : Nat} {loc loc' : List (Option AV)} {stk : List AV} {h : Hp} (bs : List Bool) (he : mk bs loc = loc') (k : Go M out pc loc' stk h) : Go M out pc loc stk h := by
  subst he
  exact k.st fun w p e R s m args below meth c Q t0 H locs ls n1 n2 C hH hS hl kk => kk ls (hl.mask bs)
