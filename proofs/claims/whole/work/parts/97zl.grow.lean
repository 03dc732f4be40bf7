/-! PURE PART: what is made: growth -/
/-- g is h grown: what was there is the same but at the cells that A (ints, longs) and B (references) name -/
def GWH (A B : Nat → Nat → Prop) (h g : Hp) : Prop := hTop h ≤ hTop g ∧ ∀ b, b < hTop h → hTag g b = hTag h b ∧ hLen g b = hLen h b ∧ ∀ k, (¬ A b k → hI g b k = hI h b k ∧ hJ g b k = hJ h b k) ∧ (¬ B b k → hR g b k = hR h b k)
abbrev no2 : Nat → Nat → Prop := fun _ _ => False
section GRW
variable {h g g' : Hp} {A B A' B' : Nat → Nat → Prop} {a b : Nat}
theorem GWH.refl (A B : Nat → Nat → Prop) (h : Hp) : GWH A B h h := ⟨Nat.le_refl _, fun _ _ => ⟨rfl, rfl, fun _ => ⟨fun _ => ⟨rfl, rfl⟩, fun _ => rfl⟩⟩⟩
theorem GWH.trans (H : GWH A B h g) (G : GWH A B g g') : GWH A B h g' := by
  refine ⟨Nat.le_trans H.1 G.1, fun b hb => ?_⟩
  obtain ⟨q1, q2, q3⟩ := H.2 b hb
  obtain ⟨p1, p2, p3⟩ := G.2 b (Nat.lt_of_lt_of_le hb H.1)
  exact ⟨p1.trans q1, p2.trans q2, fun k => ⟨fun n => ⟨((p3 k).1 n).1.trans ((q3 k).1 n).1, ((p3 k).1 n).2.trans ((q3 k).1 n).2⟩, fun n => ((p3 k).2 n).trans ((q3 k).2 n)⟩⟩
theorem GWH.mono (H : GWH A B h g) (s : ∀ b k, b < hTop h → A b k → A' b k) (t : ∀ b k, b < hTop h → B b k → B' b k) : GWH A' B' h g :=
  ⟨H.1, fun b hb => ⟨(H.2 b hb).1, (H.2 b hb).2.1, fun k => ⟨fun n => ((H.2 b hb).2.2 k).1 (fun q => n (s b k hb q)), fun n => ((H.2 b hb).2.2 k).2 (fun q => n (t b k hb q))⟩⟩⟩
theorem FR.gw (F : FR A h g) : GWH A B h g := ⟨Nat.le_of_eq F.2.1.symm, fun b _ => ⟨F.tag b, congrFun (congrArg (fun t : Tp => t.2.1) F.1) b, fun k => ⟨F.2.2.2 b k, fun _ => congrFun (congrFun (congrArg (fun t : Tp => t.2.2) F.1) b) k⟩⟩⟩
theorem GWH.tag (G : GWH A B h g) (hb : b < hTop h) : hTag g b = hTag h b := (G.2 b hb).1
theorem GWH.len (G : GWH A B h g) (hb : b < hTop h) : hLen g b = hLen h b := (G.2 b hb).2.1
theorem GWH.r {k : Nat} (G : GWH A B h g) (hb : b < hTop h) (n : ¬ B b k) : hR g b k = hR h b k := ((G.2 b hb).2.2 k).2 n
theorem GWH.i {k : Nat} (G : GWH A B h g) (hb : b < hTop h) (n : ¬ A b k) : hI g b k = hI h b k := (((G.2 b hb).2.2 k).1 n).1
theorem GWH.E (G : GWH A B h g) (hb : b < hTop h) (n : ∀ k, ¬ B b k) : (top g).1 b = (top h).1 b ∧ (top g).2.1 b = (top h).2.1 b ∧ (top g).2.2 b = (top h).2.2 b :=
  ⟨G.tag hb, G.len hb, funext (fun k => G.r hb (n k))⟩
theorem GWH.alloc {t n : Nat} : GWH A B h (alloc h t n) := by
  refine ⟨by rw [hTop_alloc]; omega, fun b hb => ⟨?_, ?_, fun k => ⟨fun _ => ⟨?_, ?_⟩, fun _ => ?_⟩⟩⟩
  · rw [hTag_alloc, up1_ne (by omega)]
  · rw [hLen_alloc, up1_ne (by omega)]
  · rw [hI_alloc, up1_ne (by omega)]
  · rw [hJ_alloc, up1_ne (by omega)]
  · rw [hR_alloc, up1_ne (by omega)]
theorem GWH.setR {o k x : Nat} (q : B o k) : GWH A B h (setR h o k x) := by
  refine ⟨Nat.le_refl _, fun b hb => ⟨rfl, rfl, fun j => ⟨fun _ => ⟨rfl, rfl⟩, fun n => ?_⟩⟩⟩
  rw [hR_setR]
  by_cases e : b = o
  · subst e
    rw [up2_eq]
    by_cases f : j = k
    · subst f
      exact absurd q n
    · exact if_neg f
  · rw [up2_ne e]
/-- rows made, one behind the other, each put into a field of a -/
def nwps (a T : Nat) (K : Hp → Option Hp) : List (Nat × Nat × Nat) → Hp → Option Hp
  | [], h => K h
  | q :: L, h => (nw h q.1 q.2.1).bind fun g => (pfR g a T q.2.2 (hTop h)).bind fun g' => nwps a T K L g'
def nwU : List (Nat × Nat × Nat) → Nat
  | [] => 0
  | q :: L => q.2.1 + nwU L
theorem nwps_ok {a T : Nat} {K : Hp → Option Hp} : ∀ (L : List (Nat × Nat × Nat)) (h : Hp), hTag h a = T → a < hTop h → hTop h + L.length < 900000 → (L.map (fun q => q.2.2)).Nodup → ∃ g, nwps a T K L h = K g ∧ GWH no2 (fun b k => b = a ∧ k ∈ L.map (fun q => q.2.2)) h g ∧ hTop g = hTop h + L.length ∧ hUsed g = hUsed h + nwU L ∧ ∀ (i : Nat) (q : Nat × Nat × Nat), L[i]? = some q → hTag g (hTop h + i) = q.1 ∧ hLen g (hTop h + i) = q.2.1 ∧ (hI g (hTop h + i) = (fun _ => 0) ∧ hR g (hTop h + i) = (fun _ => 0)) ∧ hR g a q.2.2 = hTop h + i
  | [], h, _, _, _, _ => ⟨h, rfl, GWH.refl _ _ _, rfl, rfl, fun i q hq => by simp at hq⟩
  | p :: L, h, ht, ha, hb, hn => by
    have hl : (p :: L).length = L.length + 1 := rfl
    rw [hl] at hb
    have hn1 : p.2.2 ∉ L.map (fun q => q.2.2) := (List.nodup_cons.mp hn).1
    have hn2 : (L.map (fun q => q.2.2)).Nodup := (List.nodup_cons.mp hn).2
    have e1 : nw h p.1 p.2.1 = some (alloc h p.1 p.2.1) := if_pos (by omega)
    have t1 : hTag (alloc h p.1 p.2.1) a = T := by rw [hTag_alloc, up1_ne (by omega), ht]
    have e2 : pfR (alloc h p.1 p.2.1) a T p.2.2 (hTop h) = some (setR (alloc h p.1 p.2.1) a p.2.2 (hTop h)) := if_pos t1
    have G2 : GWH no2 (fun b k => b = a ∧ k = p.2.2) h (setR (alloc h p.1 p.2.1) a p.2.2 (hTop h)) := GWH.alloc.trans (GWH.setR ⟨rfl, rfl⟩)
    have f1 : hTop (setR (alloc h p.1 p.2.1) a p.2.2 (hTop h)) = hTop h + 1 := rfl
    have f2 : hUsed (setR (alloc h p.1 p.2.1) a p.2.2 (hTop h)) = hUsed h + p.2.1 := rfl
    have f3 : hTag (setR (alloc h p.1 p.2.1) a p.2.2 (hTop h)) (hTop h) = p.1 := by rw [hTag_setR, hTag_alloc, up1_eq]
    have f4 : hLen (setR (alloc h p.1 p.2.1) a p.2.2 (hTop h)) (hTop h) = p.2.1 := by rw [hLen_setR, hLen_alloc, up1_eq]
    have f5 : hI (setR (alloc h p.1 p.2.1) a p.2.2 (hTop h)) (hTop h) = (fun _ => 0) := by rw [hI_setR, hI_alloc, up1_eq]
    have f6 : hR (setR (alloc h p.1 p.2.1) a p.2.2 (hTop h)) a p.2.2 = hTop h := by rw [hR_setR, up2_eq]; exact if_pos rfl
    have f8 : hR (setR (alloc h p.1 p.2.1) a p.2.2 (hTop h)) (hTop h) = (fun _ => 0) := by rw [hR_setR, up2_ne (by omega), hR_alloc, up1_eq]
    have f7 : hTag (setR (alloc h p.1 p.2.1) a p.2.2 (hTop h)) a = T := t1
    generalize hg : setR (alloc h p.1 p.2.1) a p.2.2 (hTop h) = g2 at *
    obtain ⟨g, e3, G, u1, u2, z⟩ := nwps_ok (K := K) L g2 f7 (by omega) (by omega) hn2
    refine ⟨g, ?_, ?_, ?_, ?_, fun i q hq => ?_⟩
    · show (nw h p.1 p.2.1).bind (fun g => (pfR g a T p.2.2 (hTop h)).bind fun g' => nwps a T K L g') = _
      rw [e1]
      show (pfR (alloc h p.1 p.2.1) a T p.2.2 (hTop h)).bind (fun g' => nwps a T K L g') = _
      rw [e2]
      exact e3
    · refine (G2.mono (fun _ _ _ q => q) (fun b k _ q => ⟨q.1, ?_⟩)).trans (G.mono (fun _ _ _ q => q) (fun b k _ q => ⟨q.1, ?_⟩))
      · exact List.mem_cons_of_mem _ q.2
      · rw [q.2]
        exact List.mem_cons_self
    · rw [u1, f1, hl]
      omega
    · rw [u2, f2]
      show _ = hUsed h + (p.2.1 + nwU L)
      omega
    · cases i with
      | zero =>
        have hq' : p = q := by simpa using hq
        subst hq'
        have hlt : hTop h < hTop g2 := by omega
        refine ⟨?_, ?_, ⟨?_, ?_⟩, ?_⟩
        · rw [Nat.add_zero, G.tag hlt, f3]
        · rw [Nat.add_zero, G.len hlt, f4]
        · rw [Nat.add_zero]
          funext k
          rw [G.i hlt (fun q => q), f5]
        · rw [Nat.add_zero]
          funext k
          rw [G.r hlt (fun q => absurd q.1 (by omega)), f8]
        · rw [Nat.add_zero, G.r (by omega) (fun q => hn1 q.2), f6]
      | succ i =>
        have hq' : L[i]? = some q := by simpa using hq
        have := z i q hq'
        rw [f1, show hTop h + 1 + i = hTop h + (i + 1) by omega] at this
        exact this
theorem pf_ok {T k : Nat} {z : Int32} (ht : hTag h a = T) : ∃ g, pfI h a T k z = some g ∧ FR (fun b j => b = a ∧ j = k) h g ∧ hI g a k = z := by
  refine ⟨setI h a k z, if_pos ht, ⟨rfl, rfl, rfl, fun b j n => ⟨?_, rfl⟩⟩, ?_⟩
  · rw [hI_setI]
    by_cases e : b = a
    · subst e
      rw [up2_eq]
      exact if_neg (fun f => n ⟨rfl, f⟩)
    · rw [up2_ne e]
  · rw [hI_setI, up2_eq]
    exact if_pos rfl
/-- an object made and put into a field -/
theorem sub_ok {T k t n w U : Nat} {P : Hp → Prop} (init : Nat → Hp → Option Hp) (ht : hTag h a = T) (ha : a < hTop h) (hb : hTop h + w + 1 < 900000) (w1 : 1 ≤ w) (hi : ∀ h', hTag h' (hTop h) = t → hTop h' = hTop h + 1 → ∃ g, init (hTop h) h' = some g ∧ GWH (fun b _ => b = hTop h) (fun b _ => b = hTop h) h' g ∧ hTop g = hTop h + w ∧ hUsed g = hUsed h' + U ∧ P g) : ∃ g, (∀ {R : Type} (K : Hp → Option R), ((nw h t n).bind fun g1 => (rc g1 (hTop h) t (init (hTop h) g1)).bind fun x => (pfR x a T k (hTop h)).bind K) = K g) ∧ GWH no2 (fun b j => b = a ∧ j = k) h g ∧ hTop g = hTop h + w ∧ hUsed g = hUsed h + (n + U) ∧ hR g a k = hTop h ∧ ∃ x, P x ∧ hTop x = hTop h + w ∧ GWH no2 (fun b j => b = a ∧ j = k) x g := by
  have e1 : nw h t n = some (alloc h t n) := if_pos (by omega)
  have t1 : hTag (alloc h t n) (hTop h) = t := by rw [hTag_alloc, up1_eq]
  obtain ⟨x, e2, G, u1, u2, p⟩ := hi (alloc h t n) t1 rfl
  have G1 : GWH no2 no2 h x := ((GWH.alloc (t := t) (n := n)).trans G).mono (fun b _ q r => by omega) (fun b _ q r => by omega)
  have ta : hTag x a = T := by rw [G1.tag ha, ht]
  have e3 : pfR x a T k (hTop h) = some (setR x a k (hTop h)) := if_pos ta
  have G2 : GWH no2 (fun b j => b = a ∧ j = k) x (setR x a k (hTop h)) := GWH.setR ⟨rfl, rfl⟩
  refine ⟨setR x a k (hTop h), fun {R} K => ?_, (G1.mono (fun _ _ _ q => q) (fun _ _ _ q => q.elim)).trans G2, u1, ?_, ?_, x, p, u1, G2⟩
  · rw [e1]
    show (rc (alloc h t n) (hTop h) t (init (hTop h) (alloc h t n))).bind (fun x => (pfR x a T k (hTop h)).bind K) = _
    rw [rc_ok t1, e2]
    show (pfR x a T k (hTop h)).bind K = _
    rw [e3]
    rfl
  · show hUsed x = _
    rw [u2, hUsed_alloc]
    omega
  · rw [hR_setR, up2_eq]
    exact if_pos rfl
/-- an object made and put into a row -/
theorem subA_ok {T m t n w U : Nat} {i : Int} {P : Hp → Prop} (init : Nat → Hp → Option Hp) (ht : hTag h a = T) (hl : hLen h a = m) (i0 : 0 ≤ i) (i1 : i < m) (m9 : m < 100000) (ha : a < hTop h) (hb : hTop h + w + 1 < 900000) (w1 : 1 ≤ w) (hi : ∀ h', hTag h' (hTop h) = t → hTop h' = hTop h + 1 → ∃ g, init (hTop h) h' = some g ∧ GWH (fun b _ => b = hTop h) (fun b _ => b = hTop h) h' g ∧ hTop g = hTop h + w ∧ hUsed g = hUsed h' + U ∧ P g) : ∃ g, (∀ {R : Type} (K : Hp → Option R), ((nw h t n).bind fun g1 => (rc g1 (hTop h) t (init (hTop h) g1)).bind fun x => (asR x a T (J i) (hTop h) t).bind K) = K g) ∧ GWH no2 (fun b j => b = a ∧ j = i.toNat) h g ∧ hTop g = hTop h + w ∧ hUsed g = hUsed h + (n + U) ∧ hR g a i.toNat = hTop h ∧ ∃ x, P x ∧ hTop x = hTop h + w ∧ GWH no2 (fun b j => b = a ∧ j = i.toNat) x g := by
  have e1 : nw h t n = some (alloc h t n) := if_pos (by omega)
  have t1 : hTag (alloc h t n) (hTop h) = t := by rw [hTag_alloc, up1_eq]
  obtain ⟨x, e2, G, u1, u2, p⟩ := hi (alloc h t n) t1 rfl
  have G1 : GWH no2 no2 h x := ((GWH.alloc (t := t) (n := n)).trans G).mono (fun b _ q r => by omega) (fun b _ q r => by omega)
  have ta : hTag x a = T := by rw [G1.tag ha, ht]
  have tl : hLen x a = m := by rw [G1.len ha, hl]
  have tt : hTag x (hTop h) = t := by rw [G.tag (by rw [hTop_alloc]; omega), t1]
  have e3 : asR x a T (J i) (hTop h) t = some (setR x a i.toNat (hTop h)) := by
    unfold asR
    rw [if_pos ⟨ta, tt, by rw [tl]; exact inB_ok i0 i1 m9⟩, J_nat (by omega) (by omega)]
  have G2 : GWH no2 (fun b j => b = a ∧ j = i.toNat) x (setR x a i.toNat (hTop h)) := GWH.setR ⟨rfl, rfl⟩
  refine ⟨setR x a i.toNat (hTop h), fun {R} K => ?_, (G1.mono (fun _ _ _ q => q) (fun _ _ _ q => q.elim)).trans G2, u1, ?_, ?_, x, p, u1, G2⟩
  · rw [e1]
    show (rc (alloc h t n) (hTop h) t (init (hTop h) (alloc h t n))).bind (fun x => (asR x a T (J i) (hTop h) t).bind K) = _
    rw [rc_ok t1, e2]
    show (asR x a T (J i) (hTop h) t).bind K = _
    rw [e3]
    rfl
  · show hUsed x = _
    rw [u2, hUsed_alloc]
    omega
  · rw [hR_setR, up2_eq]
    exact if_pos rfl
end GRW
section LOC
variable {t t' : Tp} {a : Nat}
theorem TA.loc (E : ∀ b, a ≤ b → b ≤ a + 9 → t'.1 b = t.1 b ∧ t'.2.1 b = t.2.1 b ∧ t'.2.2 b = t.2.2 b) (T : TA t a) : TA t' a := by
  have e1 : ∀ b, a ≤ b → b ≤ a + 9 → t'.1 b = t.1 b := fun b q r => (E b q r).1
  have e2 : ∀ b, a ≤ b → b ≤ a + 9 → t'.2.1 b = t.2.1 b := fun b q r => (E b q r).2.1
  have e3 : ∀ b, a ≤ b → b ≤ a + 9 → t'.2.2 b = t.2.2 b := fun b q r => (E b q r).2.2
  simp (disch := omega) only [TA, TI, TJ, e1, e2, e3] at T ⊢
  exact T
theorem TQ.loc (E : ∀ b, a ≤ b → b ≤ a + 4 → t'.1 b = t.1 b ∧ t'.2.1 b = t.2.1 b ∧ t'.2.2 b = t.2.2 b) (T : TQ t a) : TQ t' a := by
  have e1 : ∀ b, a ≤ b → b ≤ a + 4 → t'.1 b = t.1 b := fun b q r => (E b q r).1
  have e2 : ∀ b, a ≤ b → b ≤ a + 4 → t'.2.1 b = t.2.1 b := fun b q r => (E b q r).2.1
  have e3 : ∀ b, a ≤ b → b ≤ a + 4 → t'.2.2 b = t.2.2 b := fun b q r => (E b q r).2.2
  simp (disch := omega) only [TQ, TI, e1, e2, e3] at T ⊢
  exact T
theorem TU.loc (E : ∀ b, a ≤ b → b ≤ a + 1 → t'.1 b = t.1 b ∧ t'.2.1 b = t.2.1 b ∧ t'.2.2 b = t.2.2 b) (T : TU t a) : TU t' a := by
  have e1 : ∀ b, a ≤ b → b ≤ a + 1 → t'.1 b = t.1 b := fun b q r => (E b q r).1
  have e2 : ∀ b, a ≤ b → b ≤ a + 1 → t'.2.1 b = t.2.1 b := fun b q r => (E b q r).2.1
  have e3 : ∀ b, a ≤ b → b ≤ a + 1 → t'.2.2 b = t.2.2 b := fun b q r => (E b q r).2.2
  simp (disch := omega) only [TU, TI, e1, e2, e3] at T ⊢
  exact T
theorem TT.loc (E : ∀ b, a ≤ b → b ≤ a + 1 → t'.1 b = t.1 b ∧ t'.2.1 b = t.2.1 b ∧ t'.2.2 b = t.2.2 b) (T : TT t a) : TT t' a := by
  have e1 : ∀ b, a ≤ b → b ≤ a + 1 → t'.1 b = t.1 b := fun b q r => (E b q r).1
  have e2 : ∀ b, a ≤ b → b ≤ a + 1 → t'.2.1 b = t.2.1 b := fun b q r => (E b q r).2.1
  have e3 : ∀ b, a ≤ b → b ≤ a + 1 → t'.2.2 b = t.2.2 b := fun b q r => (E b q r).2.2
  simp (disch := omega) only [TT, TB, e1, e2, e3] at T ⊢
  exact T
theorem TR.loc (E : ∀ b, a ≤ b → b ≤ a + 16 → t'.1 b = t.1 b ∧ t'.2.1 b = t.2.1 b ∧ t'.2.2 b = t.2.2 b) (T : TR t a) : TR t' a := by
  have e1 : ∀ b, a ≤ b → b ≤ a + 16 → t'.1 b = t.1 b := fun b q r => (E b q r).1
  have e2 : ∀ b, a ≤ b → b ≤ a + 16 → t'.2.1 b = t.2.1 b := fun b q r => (E b q r).2.1
  have e3 : ∀ b, a ≤ b → b ≤ a + 16 → t'.2.2 b = t.2.2 b := fun b q r => (E b q r).2.2
  simp (disch := omega) only [TR, TI, TB, TZ, e1, e2, e3] at T ⊢
  exact T
theorem TS9.loc (E : ∀ b, a ≤ b → b ≤ a + 40 → t'.1 b = t.1 b ∧ t'.2.1 b = t.2.1 b ∧ t'.2.2 b = t.2.2 b) (T : TS9 t a) : TS9 t' a := by
  have e1 : ∀ b, a ≤ b → b ≤ a + 40 → t'.1 b = t.1 b := fun b q r => (E b q r).1
  have e2 : ∀ b, a ≤ b → b ≤ a + 40 → t'.2.1 b = t.2.1 b := fun b q r => (E b q r).2.1
  have e3 : ∀ b, a ≤ b → b ≤ a + 40 → t'.2.2 b = t.2.2 b := fun b q r => (E b q r).2.2
  obtain ⟨T0, ⟨T1, T1'⟩, ⟨T2, T2'⟩, ⟨T3, T3'⟩, ⟨T4, T4'⟩, ⟨T5, T5'⟩, T6⟩ := T
  refine ⟨?_, ⟨?_, T1'.loc (fun b q r => E b (by omega) (by omega))⟩, ⟨?_, ?_⟩, ⟨?_, ?_⟩, ⟨?_, ?_⟩, ⟨?_, ?_⟩, fun i hi => ?_⟩
  · rw [e1 _ (by omega) (by omega), T0]
  · rw [e3 _ (by omega) (by omega), T1]
  · rw [e3 _ (by omega) (by omega), T2]
  · exact ⟨by rw [e1 _ (by omega) (by omega)]; exact T2'.1, by rw [e2 _ (by omega) (by omega)]; exact T2'.2⟩
  · rw [e3 _ (by omega) (by omega), T3]
  · exact ⟨by rw [e1 _ (by omega) (by omega)]; exact T3'.1, by rw [e2 _ (by omega) (by omega)]; exact T3'.2⟩
  · rw [e3 _ (by omega) (by omega), T4]
  · exact ⟨by rw [e1 _ (by omega) (by omega)]; exact T4'.1, by rw [e2 _ (by omega) (by omega)]; exact T4'.2⟩
  · rw [e3 _ (by omega) (by omega), T5]
  · exact ⟨by rw [e1 _ (by omega) (by omega)]; exact T5'.1, by rw [e2 _ (by omega) (by omega)]; exact T5'.2⟩
  · obtain ⟨⟨c1, c2⟩, ⟨c3, c4⟩, c5, c6⟩ := T6 i hi
    refine ⟨⟨?_, c2.loc (fun b q r => E b (by omega) (by omega))⟩, ⟨?_, c4.loc (fun b q r => E b (by omega) (by omega))⟩, ?_, c6.loc (fun b q r => E b (by omega) (by omega))⟩
    · rw [e3 _ (by omega) (by omega), c1]
    · rw [e3 _ (by omega) (by omega), c3]
    · rw [e3 _ (by omega) (by omega), c5]
theorem TLn.loc (E : ∀ b, a ≤ b → b ≤ a + 4 → t'.1 b = t.1 b ∧ t'.2.1 b = t.2.1 b ∧ t'.2.2 b = t.2.2 b) (T : TLn t a) : TLn t' a := by
  have e1 : ∀ b, a ≤ b → b ≤ a + 4 → t'.1 b = t.1 b := fun b q r => (E b q r).1
  have e2 : ∀ b, a ≤ b → b ≤ a + 4 → t'.2.1 b = t.2.1 b := fun b q r => (E b q r).2.1
  have e3 : ∀ b, a ≤ b → b ≤ a + 4 → t'.2.2 b = t.2.2 b := fun b q r => (E b q r).2.2
  simp (disch := omega) only [TLn, TI, e1, e2, e3] at T ⊢
  exact T
theorem TH.loc (E : ∀ b, a ≤ b → b ≤ a + 1 → t'.1 b = t.1 b ∧ t'.2.1 b = t.2.1 b ∧ t'.2.2 b = t.2.2 b) (T : TH t a) : TH t' a := by
  have e1 : ∀ b, a ≤ b → b ≤ a + 1 → t'.1 b = t.1 b := fun b q r => (E b q r).1
  have e2 : ∀ b, a ≤ b → b ≤ a + 1 → t'.2.1 b = t.2.1 b := fun b q r => (E b q r).2.1
  have e3 : ∀ b, a ≤ b → b ≤ a + 1 → t'.2.2 b = t.2.2 b := fun b q r => (E b q r).2.2
  simp (disch := omega) only [TH, TI, e1, e2, e3] at T ⊢
  exact T
theorem TS8.loc (E : ∀ b, a ≤ b → b ≤ a + 1 → t'.1 b = t.1 b ∧ t'.2.1 b = t.2.1 b ∧ t'.2.2 b = t.2.2 b) (T : TS8 t a) : TS8 t' a := by
  have e1 : ∀ b, a ≤ b → b ≤ a + 1 → t'.1 b = t.1 b := fun b q r => (E b q r).1
  have e2 : ∀ b, a ≤ b → b ≤ a + 1 → t'.2.1 b = t.2.1 b := fun b q r => (E b q r).2.1
  have e3 : ∀ b, a ≤ b → b ≤ a + 1 → t'.2.2 b = t.2.2 b := fun b q r => (E b q r).2.2
  simp (disch := omega) only [TS8, TI, e1, e2, e3] at T ⊢
  exact T
theorem TRd.loc (E : ∀ b, a ≤ b → b ≤ a + 22 → t'.1 b = t.1 b ∧ t'.2.1 b = t.2.1 b ∧ t'.2.2 b = t.2.2 b) (T : TRd t a) : TRd t' a := by
  obtain ⟨T0, ⟨T1, T1'⟩, ⟨T2, T2'⟩, ⟨T3, T3'⟩, T4, T4'⟩ := T
  have e := E a (by omega) (by omega)
  exact ⟨by rw [e.1, T0], ⟨by rw [e.2.2, T1], T1'.loc (fun b q r => E b (by omega) (by omega))⟩, ⟨by rw [e.2.2, T2], T2'.loc (fun b q r => E b (by omega) (by omega))⟩, ⟨by rw [e.2.2, T3], T3'.loc (fun b q r => E b (by omega) (by omega))⟩, by rw [e.2.2, T4], T4'.loc (fun b q r => E b (by omega) (by omega))⟩
theorem TDr.loc (E : ∀ b, a ≤ b → b ≤ a + 11 → t'.1 b = t.1 b ∧ t'.2.1 b = t.2.1 b ∧ t'.2.2 b = t.2.2 b) (T : TDr t a) : TDr t' a := by
  obtain ⟨T0, ⟨T1, T1'⟩, T2, T3, T4⟩ := T
  have e := E a (by omega) (by omega)
  have f := E (a + 11) (by omega) (by omega)
  exact ⟨by rw [e.1, T0], ⟨by rw [e.2.2, T1], T1'.loc (fun b q r => E b (by omega) (by omega))⟩, by rw [e.2.2, T2], by rw [f.1, T3], by rw [f.2.1, T4]⟩
/-- the class's shape; what the row of images names doesn't matter -/
theorem TX.loc (E : ∀ b, a ≤ b → b ≤ a + 81 → t'.1 b = t.1 b ∧ t'.2.1 b = t.2.1 b ∧ (b ≠ a + 42 → t'.2.2 b = t.2.2 b)) (T : TX t a) : TX t' a := by
  obtain ⟨T0, T1, ⟨T2, T2', T2''⟩, ⟨T3, T3'⟩, ⟨T4, T4'⟩, ⟨T5, T5'⟩, T6, T6'⟩ := T
  have e := E a (by omega) (by omega)
  have er := e.2.2 (by omega)
  have f := E (a + 42) (by omega) (by omega)
  have E' : ∀ b, a + 43 ≤ b → b ≤ a + 81 → t'.1 b = t.1 b ∧ t'.2.1 b = t.2.1 b ∧ t'.2.2 b = t.2.2 b := fun b q r => ⟨(E b (by omega) r).1, (E b (by omega) r).2.1, (E b (by omega) r).2.2 (by omega)⟩
  exact ⟨by rw [e.1, T0], by rw [er, T1], ⟨by rw [er, T2], by rw [f.1, T2'], by rw [f.2.1, T2'']⟩, ⟨by rw [er, T3], T3'.loc (fun b q r => E' b (by omega) (by omega))⟩, ⟨by rw [er, T4], T4'.loc (fun b q r => E' b (by omega) (by omega))⟩, ⟨by rw [er, T5], T5'.loc (fun b q r => E' b (by omega) (by omega))⟩, by rw [er, T6], T6'.loc (fun b q r => E' b (by omega) (by omega))⟩
end LOC
