/-- values of the pure machine: ints, longs, references by number (0 null, 1 the script, 2.. what is made, 999999 a carried one, 1000000.. texts and their bytes) -/
abbrev AV : Type := Int32 ⊕ (Int64 ⊕ Nat)
abbrev aI (x : Int32) : AV := Sum.inl x
abbrev aL (x : Int64) : AV := Sum.inr (Sum.inl x)
abbrev aA (n : Nat) : AV := Sum.inr (Sum.inr n)
/-- the pure heap: next number, slots made, kinds, lengths, ints, longs, references -/
abbrev Hp : Type := Nat × Nat × (Nat → Nat) × (Nat → Nat) × (Nat → Nat → Int32) × (Nat → Nat → Int64) × (Nat → Nat → Nat)
def hTop (h : Hp) : Nat := h.1
def hUsed (h : Hp) : Nat := h.2.1
def hTag (h : Hp) : Nat → Nat := h.2.2.1
def hLen (h : Hp) : Nat → Nat := h.2.2.2.1
def hI (h : Hp) : Nat → Nat → Int32 := h.2.2.2.2.1
def hJ (h : Hp) : Nat → Nat → Int64 := h.2.2.2.2.2.1
def hR (h : Hp) : Nat → Nat → Nat := h.2.2.2.2.2.2
def up1 {α : Type} (f : Nat → α) (o : Nat) (x : α) : Nat → α := fun a => if a = o then x else f a
def up2 {α : Type} (f : Nat → Nat → α) (o k : Nat) (x : α) : Nat → Nat → α := fun a j => if a = o then (if j = k then x else f a j) else f a j
def setI (h : Hp) (o k : Nat) (x : Int32) : Hp := (h.1, h.2.1, h.2.2.1, h.2.2.2.1, up2 h.2.2.2.2.1 o k x, h.2.2.2.2.2)
def setJ (h : Hp) (o k : Nat) (x : Int64) : Hp := (h.1, h.2.1, h.2.2.1, h.2.2.2.1, h.2.2.2.2.1, up2 h.2.2.2.2.2.1 o k x, h.2.2.2.2.2.2)
def setR (h : Hp) (o k : Nat) (x : Nat) : Hp := (h.1, h.2.1, h.2.2.1, h.2.2.2.1, h.2.2.2.2.1, h.2.2.2.2.2.1, up2 h.2.2.2.2.2.2 o k x)
def setIA (h : Hp) (o : Nat) (f : Nat → Int32) : Hp := (h.1, h.2.1, h.2.2.1, h.2.2.2.1, up1 h.2.2.2.2.1 o f, h.2.2.2.2.2)
def setJA (h : Hp) (o : Nat) (f : Nat → Int64) : Hp := (h.1, h.2.1, h.2.2.1, h.2.2.2.1, h.2.2.2.2.1, up1 h.2.2.2.2.2.1 o f, h.2.2.2.2.2.2)
def alloc (h : Hp) (t n : Nat) : Hp := (h.1 + 1, h.2.1 + n, up1 h.2.2.1 h.1 t, up1 h.2.2.2.1 h.1 n, up1 h.2.2.2.2.1 h.1 (fun _ => 0), up1 h.2.2.2.2.2.1 h.1 (fun _ => 0), up1 h.2.2.2.2.2.2 h.1 (fun _ => 0))
/-- what is fixed in a launch: the launch, the tables' numbers, the heap's size at the start, array kinds' numbers, the script, texts, the carried reference -/
abbrev Wd : Type := Launch × va_G × Nat × (Nat → ClassId) × (Nat × Nat × (Nat → Int32)) × (Nat → Nat) × (Nat → Nat) × Option Nat
def wL (w : Wd) : Launch := w.1
def wD (w : Wd) : va_G := w.2.1
def wz (w : Wd) : Nat := w.2.2.1
def wca (w : Wd) : Nat → ClassId := w.2.2.2.1
def wb (w : Wd) : Nat := w.2.2.2.2.1.1
def wn (w : Wd) : Nat := w.2.2.2.2.1.2.1
def wxs (w : Wd) : Nat → Int32 := w.2.2.2.2.1.2.2
def wK (w : Wd) : Nat → Nat := w.2.2.2.2.2.1
def wV (w : Wd) : Nat → Nat := w.2.2.2.2.2.2.1
def wfm (w : Wd) : Option Nat := w.2.2.2.2.2.2.2
def ad (w : Wd) (n : Nat) : Option Nat := if n = 0 then none else if n = 1 then some (wb w) else if n < 999999 then some (wz w + (n - 2)) else if n = 999999 then wfm w else if n % 2 = 0 then some (wK w ((n - 1000000) / 2)) else some (wV w ((n - 1000000) / 2))
def cv (w : Wd) : AV → Value
  | .inl x => .int x
  | .inr (.inl x) => .long x
  | .inr (.inr n) => va_rf (ad w n)
def fkd (s : String) : Nat := if s = "J" then 1 else if s = "I" then 0 else if s = "Z" then 0 else 2
/-- the kind of field k of a made object of kind t: 0 int, 1 long, 2 reference -/
def fk (t k : Nat) : Nat := match vwCl[t - 1]? with
  | some q => fkd (q.2.1 k).2.2.1
  | none => 0
def nf (t : Nat) : Nat := match vwCl[t - 1]? with
  | some q => q.2.2
  | none => 0
def fv (w : Wd) (h : Hp) (t o k : Nat) : Value := if fk t k = 1 then .long (hJ h o k) else if fk t k = 0 then .int (hI h o k) else va_rf (ad w (hR h o k))
def arrc (w : Wd) (h : Hp) (t o : Nat) : (Nat → Int32) ⊕ (Nat → Int64) ⊕ (Nat → UInt32) ⊕ (Nat → UInt64) ⊕ (Nat → Option Nat) := if t = 22 then .inr (.inl (hJ h o)) else if t < 24 then .inl (hI h o) else .inr (.inr (.inr (.inr (fun k => ad w (hR h o k)))))
def fvs (w : Wd) (h : Hp) (t o : Nat) : List Value := (List.range (nf t)).map (fv w h t o)
def ent (w : Wd) (h : Hp) (o : Nat) : va_E := if hTag h o < 20 then .inr (hTag h o - 1, fvs w h (hTag h o) o) else .inl (wca w (hTag h o), hLen h o, arrc w h (hTag h o) o)
def world (w : Wd) (h : Hp) : va_W := (List.range (hTop h - 2)).map (fun i => (wz w + i, ent w h (i + 2)))
def aty (t : Nat) : FieldType := if t = 20 then .int else if t = 21 then .byte else if t = 22 then .long else if t = 23 then .boolean else .object (aoL.getD (t - 24) "")
def tysL (w : Wd) : List (ClassId × FieldType) := (List.range (4 + aoL.length)).map (fun i => (wca w (20 + i), aty (20 + i)))
def HPr (w : Wd) (h : Hp) (H : Heap) : Prop := 2 ≤ hTop h ∧ hTop h < 900000 ∧ (∀ o, o < 2 ∨ hTop h ≤ o → hTag h o = 0) ∧ (∀ a, hTag h a = 21 → ∀ j, fits .byte (.int (hI h a j)) = true) ∧ va_P (wD w) vwCl (world w h) H ∧ hLen h 1 = wn w ∧ hI h 1 = wxs w
abbrev wA (w : Wd) : Nat → Prop := fun q => wz w ≤ q
theorem world_get {w : Wd} {h : Hp} {o : Nat} (h2 : 2 ≤ o) (ho : o < hTop h) : (world w h)[o - 2]? = some (wz w + (o - 2), ent w h o) := by
  unfold world
  rw [List.getElem?_map, List.getElem?_range (by omega)]
  show some (wz w + (o - 2), ent w h (o - 2 + 2)) = _
  rw [show o - 2 + 2 = o by omega]
theorem world_inv {w : Wd} {h : Hp} {i : Nat} {q : Nat × va_E} (hq : (world w h)[i]? = some q) : i < hTop h - 2 ∧ q = (wz w + i, ent w h (i + 2)) := by
  unfold world at hq
  rw [List.getElem?_map] at hq
  by_cases hi : i < hTop h - 2
  · rw [List.getElem?_range hi] at hq
    exact ⟨hi, (Option.some.inj hq).symm⟩
  · rw [List.getElem?_eq_none (by simpa using hi)] at hq
    cases hq
theorem world_D (w : Wd) (h : Hp) : va_D (wA w) (world w h) := by
  refine ⟨fun i j p q hi hj he => ?_, fun k q hk => ?_⟩
  · obtain ⟨-, rfl⟩ := world_inv hi
    obtain ⟨-, rfl⟩ := world_inv hj
    simp only at he
    omega
  · obtain ⟨-, rfl⟩ := world_inv hk
    exact Nat.le_add_right _ _
theorem world_set {w : Wd} {h h' : Hp} {o : Nat} (h2 : 2 ≤ o) (ho : o < hTop h) (ht : hTop h' = hTop h) (he : ∀ a, a ≠ o → ent w h' a = ent w h a) : (world w h).set (o - 2) (wz w + (o - 2), ent w h' o) = world w h' := by
  apply List.ext_getElem?
  intro i
  by_cases hi : i < hTop h - 2
  · have e2 : (world w h')[i]? = some (wz w + i, ent w h' (i + 2)) := by
      have := world_get (w := w) (h := h') (o := i + 2) (by omega) (by omega)
      simpa using this
    have e1 : (world w h)[i]? = some (wz w + i, ent w h (i + 2)) := by
      have := world_get (w := w) (h := h) (o := i + 2) (by omega) (by omega)
      simpa using this
    rw [e2]
    by_cases hio : i = o - 2
    · subst hio
      rw [List.getElem?_set_self (by unfold world; simpa using hi)]
      rw [show o - 2 + 2 = o by omega]
    · rw [List.getElem?_set_ne (fun q => hio q.symm), e1, he (i + 2) (by omega)]
  · rw [List.getElem?_eq_none (by unfold world; simp; omega), List.getElem?_eq_none (by unfold world; simp; omega)]
theorem world_push {w : Wd} {h h' : Hp} (h2 : 2 ≤ hTop h) (ht : hTop h' = hTop h + 1) (he : ∀ a, a < hTop h → ent w h' a = ent w h a) : world w h ++ [(wz w + (hTop h - 2), ent w h' (hTop h))] = world w h' := by
  unfold world
  rw [show hTop h' - 2 = (hTop h - 2) + 1 by omega, List.range_succ, List.map_append]
  congr 1
  · apply List.map_congr_left
    intro i hi
    rw [he (i + 2) (by have := List.mem_range.mp hi; omega)]
  · simp only [List.map_cons, List.map_nil]
    rw [show hTop h - 2 + 2 = hTop h by omega]
theorem ad_made {w : Wd} {o : Nat} (h2 : 2 ≤ o) (ho : o < 900000) : ad w o = some (wz w + (o - 2)) := by
  unfold ad
  rw [if_neg (by omega), if_neg (by omega), if_pos (by omega)]
theorem cv_made {w : Wd} {o : Nat} (h2 : 2 ≤ o) (ho : o < 900000) : cv w (aA o) = .ref (wz w + (o - 2)) := by
  show va_rf (ad w o) = _
  rw [ad_made h2 ho]
  rfl
/-- a kind that isn't 0 is that of a made one -/
theorem HPr.made {w : Wd} {h : Hp} {H : Heap} (hH : HPr w h H) {o t : Nat} (ht : hTag h o = t) (h0 : t ≠ 0) : 2 ≤ o ∧ o < hTop h ∧ o < 900000 := by
  have h1 : ¬ (o < 2 ∨ hTop h ≤ o) := fun q => h0 (by rw [← ht]; exact hH.2.2.1 o q)
  have h2 := hH.2.1
  omega
theorem hTop_setI (h : Hp) (o k : Nat) (x : Int32) : hTop (setI h o k x) = hTop h := rfl
theorem hTop_setJ (h : Hp) (o k : Nat) (x : Int64) : hTop (setJ h o k x) = hTop h := rfl
theorem hTop_setR (h : Hp) (o k : Nat) (x : Nat) : hTop (setR h o k x) = hTop h := rfl
theorem hTop_setIA (h : Hp) (o : Nat) (f : Nat → Int32) : hTop (setIA h o f) = hTop h := rfl
theorem hTop_setJA (h : Hp) (o : Nat) (f : Nat → Int64) : hTop (setJA h o f) = hTop h := rfl
theorem hTop_alloc (h : Hp) (t n : Nat) : hTop (alloc h t n) = hTop h + 1 := rfl
theorem hUsed_setI (h : Hp) (o k : Nat) (x : Int32) : hUsed (setI h o k x) = hUsed h := rfl
theorem hUsed_setJ (h : Hp) (o k : Nat) (x : Int64) : hUsed (setJ h o k x) = hUsed h := rfl
theorem hUsed_setR (h : Hp) (o k : Nat) (x : Nat) : hUsed (setR h o k x) = hUsed h := rfl
theorem hUsed_setIA (h : Hp) (o : Nat) (f : Nat → Int32) : hUsed (setIA h o f) = hUsed h := rfl
theorem hUsed_setJA (h : Hp) (o : Nat) (f : Nat → Int64) : hUsed (setJA h o f) = hUsed h := rfl
theorem hUsed_alloc (h : Hp) (t n : Nat) : hUsed (alloc h t n) = hUsed h + n := rfl
theorem hTag_setI (h : Hp) (o k : Nat) (x : Int32) : hTag (setI h o k x) = hTag h := rfl
theorem hTag_setJ (h : Hp) (o k : Nat) (x : Int64) : hTag (setJ h o k x) = hTag h := rfl
theorem hTag_setR (h : Hp) (o k : Nat) (x : Nat) : hTag (setR h o k x) = hTag h := rfl
theorem hTag_setIA (h : Hp) (o : Nat) (f : Nat → Int32) : hTag (setIA h o f) = hTag h := rfl
theorem hTag_setJA (h : Hp) (o : Nat) (f : Nat → Int64) : hTag (setJA h o f) = hTag h := rfl
theorem hTag_alloc (h : Hp) (t n : Nat) : hTag (alloc h t n) = up1 (hTag h) (hTop h) t := rfl
theorem hLen_setI (h : Hp) (o k : Nat) (x : Int32) : hLen (setI h o k x) = hLen h := rfl
theorem hLen_setJ (h : Hp) (o k : Nat) (x : Int64) : hLen (setJ h o k x) = hLen h := rfl
theorem hLen_setR (h : Hp) (o k : Nat) (x : Nat) : hLen (setR h o k x) = hLen h := rfl
theorem hLen_setIA (h : Hp) (o : Nat) (f : Nat → Int32) : hLen (setIA h o f) = hLen h := rfl
theorem hLen_setJA (h : Hp) (o : Nat) (f : Nat → Int64) : hLen (setJA h o f) = hLen h := rfl
theorem hLen_alloc (h : Hp) (t n : Nat) : hLen (alloc h t n) = up1 (hLen h) (hTop h) n := rfl
theorem hI_setI (h : Hp) (o k : Nat) (x : Int32) : hI (setI h o k x) = up2 (hI h) o k x := rfl
theorem hI_setJ (h : Hp) (o k : Nat) (x : Int64) : hI (setJ h o k x) = hI h := rfl
theorem hI_setR (h : Hp) (o k : Nat) (x : Nat) : hI (setR h o k x) = hI h := rfl
theorem hI_setIA (h : Hp) (o : Nat) (f : Nat → Int32) : hI (setIA h o f) = up1 (hI h) o f := rfl
theorem hI_setJA (h : Hp) (o : Nat) (f : Nat → Int64) : hI (setJA h o f) = hI h := rfl
theorem hI_alloc (h : Hp) (t n : Nat) : hI (alloc h t n) = up1 (hI h) (hTop h) (fun _ => 0) := rfl
theorem hJ_setI (h : Hp) (o k : Nat) (x : Int32) : hJ (setI h o k x) = hJ h := rfl
theorem hJ_setJ (h : Hp) (o k : Nat) (x : Int64) : hJ (setJ h o k x) = up2 (hJ h) o k x := rfl
theorem hJ_setR (h : Hp) (o k : Nat) (x : Nat) : hJ (setR h o k x) = hJ h := rfl
theorem hJ_setIA (h : Hp) (o : Nat) (f : Nat → Int32) : hJ (setIA h o f) = hJ h := rfl
theorem hJ_setJA (h : Hp) (o : Nat) (f : Nat → Int64) : hJ (setJA h o f) = up1 (hJ h) o f := rfl
theorem hJ_alloc (h : Hp) (t n : Nat) : hJ (alloc h t n) = up1 (hJ h) (hTop h) (fun _ => 0) := rfl
theorem hR_setI (h : Hp) (o k : Nat) (x : Int32) : hR (setI h o k x) = hR h := rfl
theorem hR_setJ (h : Hp) (o k : Nat) (x : Int64) : hR (setJ h o k x) = hR h := rfl
theorem hR_setR (h : Hp) (o k : Nat) (x : Nat) : hR (setR h o k x) = up2 (hR h) o k x := rfl
theorem hR_setIA (h : Hp) (o : Nat) (f : Nat → Int32) : hR (setIA h o f) = hR h := rfl
theorem hR_setJA (h : Hp) (o : Nat) (f : Nat → Int64) : hR (setJA h o f) = hR h := rfl
theorem hR_alloc (h : Hp) (t n : Nat) : hR (alloc h t n) = up1 (hR h) (hTop h) (fun _ => 0) := rfl
theorem up2_ne {α : Type} {f : Nat → Nat → α} {o k a : Nat} {x : α} (h : a ≠ o) : up2 f o k x a = f a := by
  funext j
  simp [up2, h]
theorem up2_eq {α : Type} {f : Nat → Nat → α} {o k : Nat} {x : α} : up2 f o k x o = fun j => if j = k then x else f o j := by
  funext j
  simp [up2]
theorem up1_ne {α : Type} {f : Nat → α} {o a : Nat} {x : α} (h : a ≠ o) : up1 f o x a = f a := by simp [up1, h]
theorem up1_eq {α : Type} {f : Nat → α} {o : Nat} {x : α} : up1 f o x o = x := by simp [up1]
/-- what a cell is told by: its kind, its length, its ints, longs, references -/
theorem ent_congr {w : Wd} {h h' : Hp} {a : Nat} (h1 : hTag h' a = hTag h a) (h2 : hLen h' a = hLen h a) (h3 : hI h' a = hI h a) (h4 : hJ h' a = hJ h a) (h5 : hR h' a = hR h a) : ent w h' a = ent w h a := by
  unfold ent arrc fvs
  rw [h1, h2, h3, h4, h5]
  have hf : fv w h' (hTag h a) a = fv w h (hTag h a) a := by
    funext k
    unfold fv
    rw [h3, h4, h5]
  rw [hf]
theorem fvs_get {w : Wd} {h : Hp} {t o k : Nat} (hk : k < nf t) : (fvs w h t o)[k]? = some (fv w h t o k) := by
  unfold fvs
  rw [List.getElem?_map, List.getElem?_range hk]
  rfl
theorem fvs_len {w : Wd} {h : Hp} {t o : Nat} : (fvs w h t o).length = nf t := by simp [fvs]
/-- one field changed -/
theorem fvs_set {w : Wd} {h h' : Hp} {t o k : Nat} {v : Value} (he : ∀ j, j ≠ k → fv w h' t o j = fv w h t o j) (hv : fv w h' t o k = v) : (fvs w h t o).set k v = fvs w h' t o := by
  apply List.ext_getElem?
  intro i
  by_cases hi : i < nf t
  · rw [fvs_get hi]
    by_cases hik : i = k
    · subst hik
      rw [List.getElem?_set_self (by rw [fvs_len]; exact hi), hv]
    · rw [List.getElem?_set_ne (fun q => hik q.symm), fvs_get hi, he i hik]
  · rw [List.getElem?_eq_none (by rw [List.length_set, fvs_len]; omega), List.getElem?_eq_none (by rw [fvs_len]; omega)]
theorem ent_obj {w : Wd} {h : Hp} {o t : Nat} (ht : hTag h o = t) (h20 : t < 20) : ent w h o = .inr (t - 1, fvs w h t o) := by
  unfold ent
  rw [ht, if_pos h20]
theorem ent_arr {w : Wd} {h : Hp} {o t : Nat} (ht : hTag h o = t) (h20 : ¬ t < 20) : ent w h o = .inl (wca w t, hLen h o, arrc w h t o) := by
  unfold ent
  rw [ht, if_neg h20]
theorem HPr.set {w : Wd} {h h' : Hp} {H H1 : Heap} {o : Nat} {e : va_E} (hH : HPr w h H) (h2 : 2 ≤ o) (ho : o < hTop h) (ht : hTop h' = hTop h) (hg : hTag h' = hTag h) (he : ∀ a, a ≠ o → ent w h' a = ent w h a) (hoe : ent w h' o = e) (hby : (∀ a, hTag h a = 21 → ∀ j, fits .byte (.int (hI h a j)) = true) → ∀ a, hTag h' a = 21 → ∀ j, fits .byte (.int (hI h' a j)) = true) (hx : hLen h' = hLen h ∧ ∀ a, a ≠ o → hI h' a = hI h a) (hP : va_P (wD w) vwCl ((world w h).set (o - 2) (wz w + (o - 2), e)) H1) : HPr w h' H1 := by
  subst hoe
  rw [world_set h2 ho ht he] at hP
  exact ⟨by rw [ht]; exact hH.1, by rw [ht]; exact hH.2.1, by rw [ht, hg]; exact hH.2.2.1, hby hH.2.2.2.1, hP, by rw [hx.1]; exact hH.2.2.2.2.2.1, by rw [hx.2 1 (by omega)]; exact hH.2.2.2.2.2.2⟩
