/-! PURE PART: both objects made -/
section INT
variable {h : Hp} {a : Nat}
theorem sub2_ok {T k t n w U : Nat} {P : Hp → Prop} (init : Nat → Hp → Option Hp) (ht : hTag h a = T) (ha : a < hTop h) (hb : hTop h + w + 1 < 900000) (w1 : 1 ≤ w) (hi : ∀ h', hTag h' (hTop h) = t → hTop h' = hTop h + 1 → ∃ g, init (hTop h) h' = some g ∧ GWH (fun b _ => b = hTop h) (fun b _ => b = hTop h) h' g ∧ hTop g = hTop h + w ∧ hUsed g = hUsed h' + U ∧ P g) (loc : ∀ x g, P x → (∀ b, hTop h ≤ b → b < hTop h + w → (top g).1 b = (top x).1 b ∧ (top g).2.1 b = (top x).2.1 b ∧ (top g).2.2 b = (top x).2.2 b ∧ hI g b = hI x b) → P g) : ∃ g, (∀ {R : Type} (K : Hp → Option R), ((nw h t n).bind fun g1 => (rc g1 (hTop h) t (init (hTop h) g1)).bind fun x => (pfR x a T k (hTop h)).bind K) = K g) ∧ GWH no2 (fun b j => b = a ∧ j = k) h g ∧ hTop g = hTop h + w ∧ hUsed g = hUsed h + (n + U) ∧ hR g a k = hTop h ∧ hTag g a = T ∧ P g := by
  obtain ⟨g, e, G, u, v, r, x, p, w', H⟩ := sub_ok (h := h) (a := a) (T := T) (k := k) (t := t) (n := n) (w := w) (U := U) (P := P) init ht ha hb w1 hi
  refine ⟨g, e, G, u, v, r, by rw [G.tag ha, ht], loc x g p (fun b q r => ?_)⟩
  have hbx : b < hTop x := by rw [w']; exact r
  have E := H.E hbx (fun k n => by have := n.1; omega)
  exact ⟨E.1, E.2.1, E.2.2, funext (fun k => H.i hbx (fun q => q))⟩
theorem GWH.up {g : Hp} {A B : Nat → Nat → Prop} {c w : Nat} (G : GWH A B h g) (hw : c + w < hTop h) (n : ∀ b k, c ≤ b → ¬ B b k) : ∀ b, c ≤ b → b ≤ c + w → (top g).1 b = (top h).1 b ∧ (top g).2.1 b = (top h).2.1 b ∧ (top g).2.2 b = (top h).2.2 b :=
  fun b q r => G.E (by omega) (fun k => n b k q)
theorem X7_init_ok (ht : hTag h a = 7) (ha : hTop h = a + 1) (hb : a + 100 < 900000) : ∃ g, m_X7_init a h = some g ∧ GWH (fun b _ => b = a) (fun b _ => b = a) h g ∧ hTop g = a + 23 ∧ hUsed g = hUsed h + 2748 ∧ TRd (top g) a := by
  have na : ∀ (c j b k : Nat), a + c + 1 ≤ b → ¬ (b = a ∧ k = j) := fun c j b k q n => by omega
  obtain ⟨g1, e1, G1, u1, v1, r1, t1, T1⟩ := sub2_ok (h := h) (a := a) (T := 7) (k := 0) (t := 5) (n := 9) (w := 5) (U := 48) (P := fun y => TLn (top y) (hTop h)) m_X4_init ht (by omega) (by omega) (by omega) (fun h' t' h1 => X4_init_ok t' h1 (by omega)) (fun x g p E => p.loc (fun b q r => have E' := E b q (by omega); ⟨E'.1, E'.2.1, E'.2.2.1⟩))
  have u1' : hTop g1 = a + 6 := by omega
  rw [ha] at T1 r1
  obtain ⟨g2, e2, G2, u2, v2, r2, t2, T2⟩ := sub2_ok (h := g1) (a := a) (T := 7) (k := 1) (t := 1) (n := 12) (w := 10) (U := 2584) (P := fun y => TA (top y) (hTop g1)) m_X0_init t1 (by omega) (by omega) (by omega) (fun h' t' h1 => X0_init_ok t' h1 (by omega)) (fun x g p E => p.loc (fun b q r => have E' := E b q (by omega); ⟨E'.1, E'.2.1, E'.2.2.1⟩))
  rw [u1'] at T2 r2 u2
  have u2' : hTop g2 = a + 16 := u2
  have T1 : TLn (top g2) (a + 1) := T1.loc (G2.up (by omega) (fun b k => na 0 1 b k))
  have r1 : hR g2 a 0 = a + 1 := by rw [G2.r (by omega) (fun q => absurd q.2 (by decide)), r1]
  obtain ⟨g3, e3, G3, u3, v3, r3, t3, T3⟩ := sub2_ok (h := g2) (a := a) (T := 7) (k := 2) (t := 6) (n := 5) (w := 5) (U := 64) (P := fun y => TQ (top y) (hTop g2)) m_X6_init t2 (by omega) (by omega) (by omega) (fun h' t' h1 => X6_init_ok t' h1 (by omega)) (fun x g p E => p.loc (fun b q r => have E' := E b q (by omega); ⟨E'.1, E'.2.1, E'.2.2.1⟩))
  rw [u2'] at T3 r3 u3
  have u3' : hTop g3 = a + 21 := u3
  have T1 : TLn (top g3) (a + 1) := T1.loc (G3.up (by omega) (fun b k => na 0 2 b k))
  have r1 : hR g3 a 0 = a + 1 := by rw [G3.r (by omega) (fun q => absurd q.2 (by decide)), r1]
  have T2 : TA (top g3) (a + 6) := T2.loc (G3.up (by omega) (fun b k => na 5 2 b k))
  have r2 : hR g3 a 1 = a + 6 := by rw [G3.r (by omega) (fun q => absurd q.2 (by decide)), r2]
  obtain ⟨g4, e4, G4, u4, v4, r4, t4, T4⟩ := sub2_ok (h := g3) (a := a) (T := 7) (k := 3) (t := 4) (n := 2) (w := 2) (U := 24) (P := fun y => TU (top y) (hTop g3)) m_X3_init t3 (by omega) (by omega) (by omega) (fun h' t' h1 => X3_init_ok t' h1 (by omega)) (fun x g p E => p.loc (fun b q r => have E' := E b q (by omega); ⟨E'.1, E'.2.1, E'.2.2.1⟩))
  rw [u3'] at T4 r4 u4
  have u4' : hTop g4 = a + 23 := u4
  have T1 : TLn (top g4) (a + 1) := T1.loc (G4.up (by omega) (fun b k => na 0 3 b k))
  have r1 : hR g4 a 0 = a + 1 := by rw [G4.r (by omega) (fun q => absurd q.2 (by decide)), r1]
  have T2 : TA (top g4) (a + 6) := T2.loc (G4.up (by omega) (fun b k => na 5 3 b k))
  have r2 : hR g4 a 1 = a + 6 := by rw [G4.r (by omega) (fun q => absurd q.2 (by decide)), r2]
  have T3 : TQ (top g4) (a + 16) := T3.loc (G4.up (by omega) (fun b k => na 15 3 b k))
  have r3 : hR g4 a 2 = a + 16 := by rw [G4.r (by omega) (fun q => absurd q.2 (by decide)), r3]
  obtain ⟨g5, e5, F5, i5⟩ := pf_ok (h := g4) (a := a) (T := 7) (k := 4) (z := (0 : Int32)) t4
  have t5 : hTag g5 a = 7 := by rw [F5.tag]; exact t4
  obtain ⟨g6, e6, F6, i6⟩ := pf_ok (h := g5) (a := a) (T := 7) (k := 5) (z := (-1 : Int32)) t5
  have F46 : FR (fun b _ => b = a) g4 g6 := (F5.mono (fun b k q => q.1)).trans (F6.mono (fun b k q => q.1))
  have GA : GWH no2 (fun b _ => b = a) h g4 := (((G1.mono (fun _ _ _ q => q) (fun b k _ q => q.1)).trans (G2.mono (fun _ _ _ q => q) (fun b k _ q => q.1))).trans (G3.mono (fun _ _ _ q => q) (fun b k _ q => q.1))).trans (G4.mono (fun _ _ _ q => q) (fun b k _ q => q.1))
  have sh : TRd (top g4) a := ⟨t4, ⟨r1, T1⟩, ⟨r2, T2⟩, ⟨r3, T3⟩, r4, T4⟩
  have vv : hUsed g4 = hUsed h + 2748 := by rw [v4, v3, v2, v1]
  refine ⟨g6, ?_, (GA.mono (fun _ _ _ q => q.elim) (fun _ _ _ q => q)).trans F46.gw, by rw [F46.2.1]; exact u4', by rw [F46.2.2.1]; exact vv, by rw [F46.1]; exact sh⟩
  unfold m_X7_init
  rw [rc_ok ht, bs, e1, e2, e3, e4, e5, bs, e6, bs]
theorem X1_init_ok (ht : hTag h a = 2) (ha : hTop h = a + 1) (hb : a + 100 < 900000) : ∃ g, m_X1_init a h = some g ∧ GWH (fun b _ => b = a) (fun b _ => b = a) h g ∧ hTop g = a + 12 ∧ hUsed g = hUsed h + 2597 ∧ TDr (top g) a := by
  obtain ⟨g1, e1, G1, u1, v1, r1, t1, T1⟩ := sub2_ok (h := h) (a := a) (T := 2) (k := 0) (t := 1) (n := 12) (w := 10) (U := 2584) (P := fun y => TA (top y) (hTop h)) m_X0_init ht (by omega) (by omega) (by omega) (fun h' t' h1 => X0_init_ok t' h1 (by omega)) (fun x g p E => p.loc (fun b q r => have E' := E b q (by omega); ⟨E'.1, E'.2.1, E'.2.2.1⟩))
  have f1 : hTop g1 = a + 11 := by omega
  rw [ha] at T1 r1
  obtain ⟨g2, e2, G2, u2, v2, z⟩ := nwps_ok (a := a) (T := 2) (K := fun hz => (pfI hz a 2 2 (0 : Int32)).bind fun hq => some hq) [(20, 1, 1)] g1 t1 (by omega) (by simp only [List.length_cons, List.length_nil]; omega) (by decide)
  rw [f1] at z u2
  have z0 := z 0 _ rfl
  have la : a < hTop g1 := by omega
  have t2 : hTag g2 a = 2 := by rw [G2.tag la, t1]
  have G2' : GWH no2 (fun b _ => b = a) g1 g2 := G2.mono (fun _ _ _ q => q) (fun _ _ _ q => q.1)
  obtain ⟨g3, e3, F3, i3⟩ := pf_ok (h := g2) (a := a) (T := 2) (k := 2) (z := (0 : Int32)) t2
  have T1 : TA (top g2) (a + 1) := T1.loc (G2'.up (by omega) (fun b k q => by omega))
  have s0 : hR g2 a 0 = a + 1 := by rw [G2.r la (fun q => absurd q.2 (by decide)), r1]
  have sh : TDr (top g2) a := ⟨t2, ⟨s0, T1⟩, z0.2.2.2, z0.1, z0.2.1⟩
  have u2' : hTop g2 = a + 12 := u2
  have v2' : hUsed g2 = hUsed g1 + 1 := v2
  have vv : hUsed g2 = hUsed h + 2597 := by rw [v2', v1]
  refine ⟨g3, ?_, ((G1.mono (fun _ _ _ q => q.elim) (fun _ _ _ q => q.1)).trans (G2'.mono (fun _ _ _ q => q.elim) (fun _ _ _ q => q))).trans (F3.mono (fun b k q => q.1)).gw, by rw [F3.2.1]; exact u2', by rw [F3.2.2.1]; exact vv, by rw [F3.1]; exact sh⟩
  unfold m_X1_init
  rw [rc_ok ht, bs, e1]
  refine Eq.trans e2 ?_
  show (pfI g2 a 2 2 (0 : Int32)).bind (fun hq => some hq) = _
  rw [e3, bs]
/-- a row made and put into a field -/
theorem row_ok {T k t n : Nat} (ht : hTag h a = T) (ha : a < hTop h) (hb : hTop h + 1 < 900000) : ∃ g, (∀ {R : Type} (K : Hp → Option R), ((nw h t n).bind fun g1 => (pfR g1 a T k (hTop h)).bind K) = K g) ∧ GWH no2 (fun b j => b = a ∧ j = k) h g ∧ hTop g = hTop h + 1 ∧ hUsed g = hUsed h + n ∧ hR g a k = hTop h ∧ hTag g a = T ∧ hTag g (hTop h) = t ∧ hLen g (hTop h) = n ∧ ∀ j, hR g (hTop h) j = 0 := by
  have e1 : nw h t n = some (alloc h t n) := if_pos hb
  have t1 : hTag (alloc h t n) a = T := by rw [hTag_alloc, up1_ne (by omega), ht]
  have e2 : pfR (alloc h t n) a T k (hTop h) = some (setR (alloc h t n) a k (hTop h)) := if_pos t1
  refine ⟨setR (alloc h t n) a k (hTop h), fun {R} K => ?_, GWH.alloc.trans (GWH.setR ⟨rfl, rfl⟩), rfl, rfl, ?_, t1, ?_, ?_, fun j => ?_⟩
  · rw [e1, bs, e2, bs]
  · rw [hR_setR, up2_eq]
    exact if_pos rfl
  · rw [hTag_setR, hTag_alloc, up1_eq]
  · rw [hLen_setR, hLen_alloc, up1_eq]
  · rw [hR_setR, up2_ne (by omega), hR_alloc, up1_eq]
theorem X11_init_ok (ht : hTag h a = 11) (ha : hTop h = a + 1) (hb : a + 200 < 900000) : ∃ g, m_X11_init a h = some g ∧ GWH (fun b _ => b = a) (fun b _ => b = a) h g ∧ hTop g = a + 82 ∧ hUsed g = hUsed h + 11415 ∧ TX (top g) a ∧ TS9 (top g) (a + 1) ∧ (∀ k, hR g (a + 42) k = 0) ∧ hI g (a + 2) 1 = 0 ∧ (∀ k, hI g (a + 3) k = 0) ∧ (∀ k, hI g (a + 4) k = 0) ∧ hI g (a + 1) 1 = 0 ∧ hI g (a + 1) 2 = -1 := by
  have na : ∀ (c j b k : Nat), a + c + 1 ≤ b → ¬ (b = a ∧ k = j) := fun c j b k q n => by omega
  obtain ⟨g1, e1, G1, u1, v1, r1, t1, T1, c1, c2, c3, c4, c5⟩ := sub2_ok (h := h) (a := a) (T := 11) (k := 0) (t := 9) (n := 7) (w := 41) (U := 5996) (P := fun y => TS9 (top y) (hTop h) ∧ hI y (hTop h + 1) 1 = 0 ∧ (∀ k, hI y (hTop h + 2) k = 0) ∧ (∀ k, hI y (hTop h + 3) k = 0) ∧ hI y (hTop h) 1 = 0 ∧ hI y (hTop h) 2 = -1) m_X9_init ht (by omega) (by omega) (by omega) (fun h' t' h1 => X9_init_ok t' h1 (by omega)) (fun x g p E => by
    obtain ⟨p1, p2, p3, p4, p5, p6⟩ := p
    have E0 := (E (hTop h) (by omega) (by omega)).2.2.2
    have E1 := (E (hTop h + 1) (by omega) (by omega)).2.2.2
    have E2 := (E (hTop h + 2) (by omega) (by omega)).2.2.2
    have E3 := (E (hTop h + 3) (by omega) (by omega)).2.2.2
    exact ⟨p1.loc (fun b q r => have E' := E b q (by omega); ⟨E'.1, E'.2.1, E'.2.2.1⟩), by rw [E1, p2], fun k => by rw [E2, p3], fun k => by rw [E3, p4], by rw [E0, p5], by rw [E0, p6]⟩)
  rw [ha] at T1 r1 c1 c2 c3 c4 c5 u1
  have u1' : hTop g1 = a + 42 := u1
  obtain ⟨g2, e2, G2, u2, v2, r2, t2, tg2, tl2, n2⟩ := row_ok (h := g1) (a := a) (T := 11) (k := 1) (t := 27) (n := 3) t1 (by omega) (by omega)
  rw [u1'] at r2 tg2 tl2 n2 u2
  have u2' : hTop g2 = a + 43 := u2
  obtain ⟨g3, e3, G3, u3, v3, r3, t3, T3⟩ := sub2_ok (h := g2) (a := a) (T := 11) (k := 2) (t := 7) (n := 6) (w := 23) (U := 2748) (P := fun y => TRd (top y) (hTop g2)) m_X7_init t2 (by omega) (by omega) (by omega) (fun h' t' h1 => X7_init_ok t' h1 (by omega)) (fun x g p E => p.loc (fun b q r => have E' := E b q (by omega); ⟨E'.1, E'.2.1, E'.2.2.1⟩))
  rw [u2'] at T3 r3 u3
  have u3' : hTop g3 = a + 66 := u3
  obtain ⟨g4, e4, G4, u4, v4, r4, t4, T4⟩ := sub2_ok (h := g3) (a := a) (T := 11) (k := 3) (t := 3) (n := 1) (w := 2) (U := 21) (P := fun y => TH (top y) (hTop g3)) m_X2_init t3 (by omega) (by omega) (by omega) (fun h' t' h1 => X2_init_ok t' h1 (by omega)) (fun x g p E => p.loc (fun b q r => have E' := E b q (by omega); ⟨E'.1, E'.2.1, E'.2.2.1⟩))
  rw [u3'] at T4 r4 u4
  have u4' : hTop g4 = a + 68 := u4
  obtain ⟨g5, e5, G5, u5, v5, r5, t5, T5⟩ := sub2_ok (h := g4) (a := a) (T := 11) (k := 4) (t := 8) (n := 1) (w := 2) (U := 32) (P := fun y => TS8 (top y) (hTop g4)) m_X8_init t4 (by omega) (by omega) (by omega) (fun h' t' h1 => X8_init_ok t' h1 (by omega)) (fun x g p E => p.loc (fun b q r => have E' := E b q (by omega); ⟨E'.1, E'.2.1, E'.2.2.1⟩))
  rw [u4'] at T5 r5 u5
  have u5' : hTop g5 = a + 70 := u5
  obtain ⟨g6, e6, G6, u6, v6, r6, t6, T6⟩ := sub2_ok (h := g5) (a := a) (T := 11) (k := 5) (t := 2) (n := 3) (w := 12) (U := 2597) (P := fun y => TDr (top y) (hTop g5)) m_X1_init t5 (by omega) (by omega) (by omega) (fun h' t' h1 => X1_init_ok t' h1 (by omega)) (fun x g p E => p.loc (fun b q r => have E' := E b q (by omega); ⟨E'.1, E'.2.1, E'.2.2.1⟩))
  rw [u5'] at T6 r6 u6
  have u6' : hTop g6 = a + 82 := u6
  have Q5 : GWH no2 (fun b k => b = a ∧ 4 < k) g5 g6 := G6.mono (fun _ _ _ q => q) (fun b k _ q => ⟨q.1, by rw [q.2]; decide⟩)
  have Q4 : GWH no2 (fun b k => b = a ∧ 3 < k) g4 g6 := (G5.mono (fun _ _ _ q => q) (fun b k _ q => ⟨q.1, by rw [q.2]; decide⟩)).trans (Q5.mono (fun _ _ _ q => q) (fun b k _ q => ⟨q.1, Nat.lt_of_succ_lt q.2⟩))
  have Q3 : GWH no2 (fun b k => b = a ∧ 2 < k) g3 g6 := (G4.mono (fun _ _ _ q => q) (fun b k _ q => ⟨q.1, by rw [q.2]; decide⟩)).trans (Q4.mono (fun _ _ _ q => q) (fun b k _ q => ⟨q.1, Nat.lt_of_succ_lt q.2⟩))
  have Q2 : GWH no2 (fun b k => b = a ∧ 1 < k) g2 g6 := (G3.mono (fun _ _ _ q => q) (fun b k _ q => ⟨q.1, by rw [q.2]; decide⟩)).trans (Q3.mono (fun _ _ _ q => q) (fun b k _ q => ⟨q.1, Nat.lt_of_succ_lt q.2⟩))
  have Q1 : GWH no2 (fun b k => b = a ∧ 0 < k) g1 g6 := (G2.mono (fun _ _ _ q => q) (fun b k _ q => ⟨q.1, by rw [q.2]; decide⟩)).trans (Q2.mono (fun _ _ _ q => q) (fun b k _ q => ⟨q.1, Nat.lt_of_succ_lt q.2⟩))
  have GA : GWH no2 (fun b _ => b = a) h g6 := (G1.mono (fun _ _ _ q => q) (fun b k _ q => q.1)).trans (Q1.mono (fun _ _ _ q => q) (fun b k _ q => q.1))
  have nb : ∀ (j b k : Nat), a + 1 ≤ b → ¬ (b = a ∧ j < k) := fun j b k q n => by omega
  have T1 : TS9 (top g6) (a + 1) := T1.loc (Q1.up (by omega) (fun b k => nb 0 b k))
  have T3 : TRd (top g6) (a + 43) := T3.loc (Q3.up (by omega) (fun b k q => nb 2 b k (by omega)))
  have T4 : TH (top g6) (a + 66) := T4.loc (Q4.up (by omega) (fun b k q => nb 3 b k (by omega)))
  have T5 : TS8 (top g6) (a + 68) := T5.loc (Q5.up (by omega) (fun b k q => nb 4 b k (by omega)))
  have la : a < hTop g1 := by omega
  have s0 : hR g6 a 0 = a + 1 := by rw [Q1.r la (fun q => absurd q.2 (by decide)), r1]
  have s1 : hR g6 a 1 = a + 42 := by rw [Q2.r (by omega) (fun q => absurd q.2 (by decide)), r2]
  have s2 : hR g6 a 2 = a + 43 := by rw [Q3.r (by omega) (fun q => absurd q.2 (by decide)), r3]
  have s3 : hR g6 a 3 = a + 66 := by rw [Q4.r (by omega) (fun q => absurd q.2 (by decide)), r4]
  have s4 : hR g6 a 4 = a + 68 := by rw [Q5.r (by omega) (fun q => absurd q.2 (by decide)), r5]
  have l42 : a + 42 < hTop g2 := by omega
  have n0 : ∀ k, hR g6 (a + 42) k = 0 := fun k => by rw [Q2.r l42 (nb 1 _ _ (by omega)), n2 k]
  have tg : hTag g6 (a + 42) = 27 := by rw [Q2.tag l42, tg2]
  have tl : hLen g6 (a + 42) = 3 := by rw [Q2.len l42, tl2]
  have vv : hUsed g6 = hUsed h + 11415 := by rw [v6, v5, v4, v3, v2, v1]
  have m1 : a + 1 < hTop g1 := by omega
  have m2 : a + 2 < hTop g1 := by omega
  have m3 : a + 3 < hTop g1 := by omega
  have m4 : a + 4 < hTop g1 := by omega
  refine ⟨g6, ?_, GA.mono (fun _ _ _ q => q.elim) (fun _ _ _ q => q), u6', vv, ⟨t6, s0, ⟨s1, tg, tl⟩, ⟨s2, T3⟩, ⟨s3, T4⟩, ⟨s4, T5⟩, r6, T6⟩, T1, n0, ?_, fun k => ?_, fun k => ?_, ?_, ?_⟩
  · unfold m_X11_init
    rw [rc_ok ht, bs, e1, e2, e3, e4, e5, e6]
  · rw [Q1.i m2 (fun q => q)]
    exact c1
  · rw [Q1.i m3 (fun q => q)]
    exact c2 k
  · rw [Q1.i m4 (fun q => q)]
    exact c3 k
  · rw [Q1.i m1 (fun q => q)]
    exact c4
  · rw [Q1.i m1 (fun q => q)]
    exact c5
theorem X12_init_ok (ht : hTag h a = 12) (ha : hTop h = a + 1) (hb : a + 200 < 900000) : ∃ g, m_X12_init a h = some g ∧ GWH (fun b _ => b = a) (fun b _ => b = a) h g ∧ hTop g = a + 17 ∧ hUsed g = hUsed h + 17954 ∧ TR (top g) a ∧ (∀ k, hI g (a + 1) k = 0) ∧ (∀ k, hI g (a + 2) k = 0) ∧ (∀ k, hI g (a + 3) k = 0) ∧ hI g (a + 4) 0 = -1 ∧ (∀ k, hI g (a + 5) k = 0) ∧ ∀ k, hI g (a + 16) k = 0 := by
  obtain ⟨g1, e1, G1, u1, v1, z⟩ := nwps_ok (a := a) (T := 12) (K := fun hz => (gfR hz a 12 4).bind fun x1 => (asI hz x1 (0 : Int32) (-1 : Int32)).bind fun hq => some hq) [(21, 2400, 1), (20, 4, 2), (20, 4, 3), (20, 4, 4), (20, 12, 5), (20, 12208, 6), (20, 456, 7), (20, 200, 8), (20, 1526, 18), (20, 4, 19), (20, 300, 20), (20, 320, 26), (20, 441, 27), (20, 32, 29), (20, 40, 34), (23, 3, 36)] h ht (by omega) (by simp only [List.length_cons, List.length_nil]; omega) (by decide)
  rw [ha] at z u1
  have t1 : hTag g1 a = 12 := by rw [G1.tag (by omega), ht]
  have z0 := z 0 _ rfl
  have z1 := z 1 _ rfl
  have z2 := z 2 _ rfl
  have z3 := z 3 _ rfl
  have z4 := z 4 _ rfl
  have z5 := z 5 _ rfl
  have z6 := z 6 _ rfl
  have z7 := z 7 _ rfl
  have z8 := z 8 _ rfl
  have z9 := z 9 _ rfl
  have z10 := z 10 _ rfl
  have z11 := z 11 _ rfl
  have z12 := z 12 _ rfl
  have z13 := z 13 _ rfl
  have z14 := z 14 _ rfl
  have z15 := z 15 _ rfl
  have sh : TR (top g1) a := ⟨t1, ⟨z1.2.2.2, z1.1, z1.2.1⟩, ⟨z2.2.2.2, z2.1, z2.2.1⟩, ⟨z3.2.2.2, z3.1, z3.2.1⟩, ⟨z4.2.2.2, z4.1, z4.2.1⟩, ⟨z5.2.2.2, z5.1, z5.2.1⟩, ⟨z6.2.2.2, z6.1, z6.2.1⟩, ⟨z7.2.2.2, z7.1, z7.2.1⟩, ⟨z8.2.2.2, z8.1, z8.2.1⟩, ⟨z9.2.2.2, z9.1, z9.2.1⟩, ⟨z10.2.2.2, z10.1, z10.2.1⟩, ⟨z11.2.2.2, z11.1, z11.2.1⟩, ⟨z12.2.2.2, z12.1, z12.2.1⟩, ⟨z13.2.2.2, z13.1, z13.2.1⟩, ⟨z14.2.2.2, z14.1, z14.2.1⟩, ⟨z0.2.2.2, z0.1, z0.2.1⟩, z15.2.2.2, z15.1, z15.2.1⟩
  have y1 : ∀ k, hI g1 (a + 1) k = 0 := fun k => congrFun z0.2.2.1.1 k
  have y2 : ∀ k, hI g1 (a + 2) k = 0 := fun k => congrFun z1.2.2.1.1 k
  have y3 : ∀ k, hI g1 (a + 3) k = 0 := fun k => congrFun z2.2.2.1.1 k
  have y5 : ∀ k, hI g1 (a + 5) k = 0 := fun k => congrFun z4.2.2.1.1 k
  have y16 : ∀ k, hI g1 (a + 16) k = 0 := fun k => congrFun z15.2.2.1.1 k
  clear z0 z1 z2 z3 z4 z5 z6 z7 z8 z9 z10 z11 z12 z13 z14 z15 z
  have u1' : hTop g1 = a + 17 := u1
  have v1' : hUsed g1 = hUsed h + 17954 := v1
  have s1 : asI g1 (a + 4) (J 0) (J (-1)) = some (wE g1 (a + 4) 0 (-1)) := asI_ok sh.a4 (by omega) (by omega) (by omega)
  have F1 : FR (fun b k => b = a + 4 ∧ k = 0) g1 (wE g1 (a + 4) 0 (-1)) := FR.wE (A := fun b k => b = a + 4 ∧ k = 0) ⟨rfl, rfl⟩
  have n0 : hI (wE g1 (a + 4) 0 (-1)) (a + 4) 0 = -1 := by
    rw [hI_setI, up2_eq]
    exact if_pos rfl
  generalize wE g1 (a + 4) 0 (-1) = g2 at *
  have GA : GWH (fun b _ => b = a) (fun b _ => b = a) h g2 := ((G1.mono (A' := fun b _ => b = a ∨ b = a + 4) (fun _ _ _ q => q.elim) (fun b k _ q => q.1)).trans (F1.mono (fun b k q => Or.inr q.1)).gw).mono (fun b k hb q => by omega) (fun b k hb q => q)
  refine ⟨g2, ?_, GA, by rw [F1.2.1]; exact u1', by rw [F1.2.2.1]; exact v1', by rw [F1.1]; exact sh, fun k => ?_, fun k => ?_, fun k => ?_, n0, fun k => ?_, fun k => ?_⟩
  · unfold m_X12_init
    rw [rc_ok ht, bs]
    refine Eq.trans e1 ?_
    show (gfR g1 a 12 4).bind (fun x1 => (asI g1 x1 (0 : Int32) (-1 : Int32)).bind fun hq => some hq) = _
    rw [sh.r4, bs]
    show (asI g1 (a + 4) (J 0) (J (-1))).bind (fun hq => some hq) = _
    rw [s1, bs]
  · rw [(F1.2.2.2 (a + 1) k (by omega)).1]
    exact y1 k
  · rw [(F1.2.2.2 (a + 2) k (by omega)).1]
    exact y2 k
  · rw [(F1.2.2.2 (a + 3) k (by omega)).1]
    exact y3 k
  · rw [(F1.2.2.2 (a + 5) k (by omega)).1]
    exact y5 k
  · rw [(F1.2.2.2 (a + 16) k (by omega)).1]
    exact y16 k
end INT
