/-! PURE PART: a state made -/
section INS
variable {h : Hp} {a : Nat}
/-- a State's rows of archives, questions, hunts are there -/
def X9h (h : Hp) (a : Nat) : Prop := hTag h a = 9 ∧ (hR h a 4 = a + 4 ∧ hTag h (a + 4) = 24 ∧ hLen h (a + 4) = 2) ∧ (hR h a 5 = a + 5 ∧ hTag h (a + 5) = 25 ∧ hLen h (a + 5) = 2) ∧ hR h a 6 = a + 6 ∧ hTag h (a + 6) = 26 ∧ hLen h (a + 6) = 2
/-- place j of them is filled -/
def X9j (h : Hp) (a j : Nat) : Prop := (hR h (a + 4) j = a + 7 + 17 * j ∧ TA (top h) (a + 7 + 17 * j)) ∧ (hR h (a + 5) j = a + 17 + 17 * j ∧ TQ (top h) (a + 17 + 17 * j)) ∧ hR h (a + 6) j = a + 22 + 17 * j ∧ TU (top h) (a + 22 + 17 * j)
theorem X9h.gw {g : Hp} {A B : Nat → Nat → Prop} (H : X9h h a) (G : GWH A B h g) (hb : a + 6 < hTop h) (n : ∀ k, ¬ B a k) : X9h g a := by
  obtain ⟨h1, ⟨h2, h3, h4⟩, ⟨h5, h6, h7⟩, h8, h9, h10⟩ := H
  have p0 : a < hTop h := by omega
  have p4 : a + 4 < hTop h := by omega
  have p5 : a + 5 < hTop h := by omega
  exact ⟨by rw [G.tag p0, h1], ⟨by rw [G.r p0 (n _), h2], by rw [G.tag p4, h3], by rw [G.len p4, h4]⟩, ⟨by rw [G.r p0 (n _), h5], by rw [G.tag p5, h6], by rw [G.len p5, h7]⟩, by rw [G.r p0 (n _), h8], by rw [G.tag hb, h9], by rw [G.len hb, h10]⟩
theorem X9_one (H : X9h h a) {P : Nat} (hP : P < 2) (ht : hTop h = a + 7 + 17 * P) (hb : a + 100 < 900000) {R : Type} (K : Hp → Option R) : ∃ g, ((gfR h a 9 4).bind fun x1 => (nw h 1 12).bind fun hh1 => (rc hh1 (hTop h) 1 (m_X0_init (hTop h) hh1)).bind fun x2 => (asR x2 x1 24 (J (P : Int)) (hTop h) 1).bind fun hh2 => (gfR hh2 a 9 5).bind fun x3 => (nw hh2 6 5).bind fun hh3 => (rc hh3 (hTop hh2) 6 (m_X6_init (hTop hh2) hh3)).bind fun x4 => (asR x4 x3 25 (J (P : Int)) (hTop hh2) 6).bind fun hh4 => (gfR hh4 a 9 6).bind fun x5 => (nw hh4 4 2).bind fun hh5 => (rc hh5 (hTop hh4) 4 (m_X3_init (hTop hh4) hh5)).bind fun x6 => (asR x6 x5 26 (J (P : Int)) (hTop hh4) 4).bind K) = K g ∧ GWH no2 (fun b k => (b = a + 4 ∨ b = a + 5 ∨ b = a + 6) ∧ k = P) h g ∧ hTop g = a + 24 + 17 * P ∧ hUsed g = hUsed h + 2691 ∧ X9j g a P := by
  have Pn : ((P : Int)).toNat = P := Int.toNat_natCast P
  obtain ⟨h1, ⟨h2, h3, h4⟩, -⟩ := id H
  obtain ⟨g5, e5, G5, u5, v5, r5, x5, P5, w5, H5⟩ := subA_ok (h := h) (a := a + 4) (T := 24) (m := 2) (t := 1) (n := 12) (w := 10) (U := 2584) (i := (P : Int)) (P := fun y => TA (top y) (hTop h)) m_X0_init h3 h4 (by omega) (by omega) (by omega) (by omega) (by omega) (by omega) (fun h' t' h1 => X0_init_ok t' h1 (by omega))
  rw [Pn] at G5 r5 H5
  have T5 : TA (top g5) (hTop h) := P5.loc (fun b q r => H5.E (by omega) (fun k n => by omega))
  have H1 : X9h g5 a := H.gw G5 (by omega) (fun k n => by omega)
  clear P5 H5 w5 h3 h4
  obtain ⟨k1, -, ⟨k5, k6, k7⟩, -⟩ := id H1
  obtain ⟨g6, e6, G6, u6, v6, r6, x6, P6, w6, H6⟩ := subA_ok (h := g5) (a := a + 5) (T := 25) (m := 2) (t := 6) (n := 5) (w := 5) (U := 64) (i := (P : Int)) (P := fun y => TQ (top y) (hTop g5)) m_X6_init k6 k7 (by omega) (by omega) (by omega) (by omega) (by omega) (by omega) (fun h' t' h1 => X6_init_ok t' h1 (by omega))
  rw [Pn] at G6 r6 H6
  have T6 : TQ (top g6) (hTop g5) := P6.loc (fun b q r => H6.E (by omega) (fun k n => by omega))
  have H2 : X9h g6 a := H1.gw G6 (by omega) (fun k n => by omega)
  clear P6 H6 w6 k6 k7
  obtain ⟨m1, -, -, m8, m9, m10⟩ := id H2
  obtain ⟨g7, e7, G7, u7, v7, r7, x7, P7, w7, H7⟩ := subA_ok (h := g6) (a := a + 6) (T := 26) (m := 2) (t := 4) (n := 2) (w := 2) (U := 24) (i := (P : Int)) (P := fun y => TU (top y) (hTop g6)) m_X3_init m9 m10 (by omega) (by omega) (by omega) (by omega) (by omega) (by omega) (fun h' t' h1 => X3_init_ok t' h1 (by omega))
  rw [Pn] at G7 r7 H7
  have T7 : TU (top g7) (hTop g6) := P7.loc (fun b q r => H7.E (by omega) (fun k n => by omega))
  clear P7 H7 w7 m9 m10
  have G57 : GWH no2 (fun b _ => b = a + 5 ∨ b = a + 6) g5 g7 := (G6.mono (fun _ _ _ q => q) (fun b k _ q => Or.inl q.1)).trans (G7.mono (fun _ _ _ q => q) (fun b k _ q => Or.inr q.1))
  have GP : GWH no2 (fun b k => (b = a + 4 ∨ b = a + 5 ∨ b = a + 6) ∧ k = P) h g7 := ((G5.mono (fun _ _ _ q => q) (fun b k _ q => ⟨Or.inl q.1, q.2⟩)).trans (G6.mono (fun _ _ _ q => q) (fun b k _ q => ⟨Or.inr (Or.inl q.1), q.2⟩))).trans (G7.mono (fun _ _ _ q => q) (fun b k _ q => ⟨Or.inr (Or.inr q.1), q.2⟩))
  have f5 : hTop g5 = a + 17 + 17 * P := by omega
  have f6 : hTop g6 = a + 22 + 17 * P := by omega
  have q4 : gfR h a 9 4 = some (a + 4) := gfR_ok h1 h2
  have q5 : gfR g5 a 9 5 = some (a + 5) := gfR_ok k1 k5
  have q6 : gfR g6 a 9 6 = some (a + 6) := gfR_ok m1 m8
  have T5' : TA (top g7) (hTop h) := T5.loc (fun b q r => G57.E (by omega) (fun k n => by omega))
  have T6' : TQ (top g7) (hTop g5) := T6.loc (fun b q r => G7.E (by omega) (fun k n => by omega))
  have s5 : hR g7 (a + 4) P = hTop h := by rw [G57.r (by omega) (by omega), r5]
  have s6 : hR g7 (a + 5) P = hTop g5 := by rw [G7.r (by omega) (by omega), r6]
  rw [ht] at T5' s5
  rw [f5] at T6' s6
  rw [f6] at T7 r7
  refine ⟨g7, ?_, GP, by omega, by omega, ⟨s5, T5'⟩, ⟨s6, T6'⟩, r7, T7⟩
  rw [q4, bs, e5, q5, bs, e6, q6, bs, e7]
theorem X9j.gw {g : Hp} {A B : Nat → Nat → Prop} {j : Nat} (H : X9j h a j) (G : GWH A B h g) (hb : a + 24 + 17 * j ≤ hTop h) (n : ∀ b k, B b k → (b = a + 4 ∨ b = a + 5 ∨ b = a + 6) ∧ k ≠ j) : X9j g a j := by
  obtain ⟨⟨a1, a2⟩, ⟨a3, a4⟩, a5, a6⟩ := H
  have nj : ∀ b, ¬ B b j := fun b q => (n b j q).2 rfl
  have nn : ∀ b k, a + 7 ≤ b → ¬ B b k := fun b k b0 q => by
    have := (n b k q).1
    omega
  refine ⟨⟨?_, a2.loc (fun b q r => G.E (by omega) (fun k => nn b k (by omega)))⟩, ⟨?_, a4.loc (fun b q r => G.E (by omega) (fun k => nn b k (by omega)))⟩, ?_, a6.loc (fun b q r => G.E (by omega) (fun k => nn b k (by omega)))⟩
  · rw [G.r (by omega) (nj _), a1]
  · rw [G.r (by omega) (nj _), a3]
  · rw [G.r (by omega) (nj _), a5]
theorem X9_loop (H : X9h h a) (ht : hTop h = a + 7) (hb : a + 100 < 900000) : ∃ g, l_X9_init_58 a (0 : Int32) h = some g ∧ GWH no2 (fun b _ => b = a + 4 ∨ b = a + 5 ∨ b = a + 6) h g ∧ hTop g = a + 41 ∧ hUsed g = hUsed h + 5382 ∧ X9j g a 0 ∧ X9j g a 1 := by
  obtain ⟨g1, e1, G1, u1, v1, J1⟩ := X9_one H (P := 0) (by omega) (by omega) hb (R := Hp) (fun hh6 => loopK (FUEL - 1) (fun (k : Int32 × Hp → Option Hp) (s : Int32 × Hp) => b_X9_init_58 a (fun v1q hq => k (v1q, hq)) s.1 s.2) (J 1, hh6))
  have H1 : X9h g1 a := H.gw G1 (by omega) (fun k n => by omega)
  obtain ⟨g2, e2, G2, u2, v2, J2⟩ := X9_one H1 (P := 1) (by omega) (by omega) hb (R := Hp) (fun hh6 => loopK (FUEL - 2) (fun (k : Int32 × Hp → Option Hp) (s : Int32 × Hp) => b_X9_init_58 a (fun v1q hq => k (v1q, hq)) s.1 s.2) (J 2, hh6))
  have J1' : X9j g2 a 0 := J1.gw G2 (by omega) (fun b k q => ⟨q.1, by omega⟩)
  refine ⟨g2, ?_, (G1.mono (fun _ _ _ q => q) (fun b k _ q => q.1)).trans (G2.mono (fun _ _ _ q => q) (fun b k _ q => q.1)), u2, by omega, J1', J2⟩
  have t0 : b_X9_init_58 a (fun v1q hq => loopK (FUEL - 1) (fun (k : Int32 × Hp → Option Hp) (s : Int32 × Hp) => b_X9_init_58 a (fun v1q hq => k (v1q, hq)) s.1 s.2) (v1q, hq)) (J 0) h = loopK (FUEL - 1) (fun (k : Int32 × Hp → Option Hp) (s : Int32 × Hp) => b_X9_init_58 a (fun v1q hq => k (v1q, hq)) s.1 s.2) (J 1, g1) := by
    unfold b_X9_init_58
    rw [if_neg (show ¬ (2 : Int32) ≤ J 0 by decide)]
    exact e1
  have t1 : b_X9_init_58 a (fun v1q hq => loopK (FUEL - 2) (fun (k : Int32 × Hp → Option Hp) (s : Int32 × Hp) => b_X9_init_58 a (fun v1q hq => k (v1q, hq)) s.1 s.2) (v1q, hq)) (J 1) g1 = loopK (FUEL - 2) (fun (k : Int32 × Hp → Option Hp) (s : Int32 × Hp) => b_X9_init_58 a (fun v1q hq => k (v1q, hq)) s.1 s.2) (J 2, g2) := by
    unfold b_X9_init_58
    rw [if_neg (show ¬ (2 : Int32) ≤ J 1 by decide)]
    exact e2
  have lk : ∀ (n : Nat) (s : Int32 × Hp), 0 < n → loopK n (fun (k : Int32 × Hp → Option Hp) (s : Int32 × Hp) => b_X9_init_58 a (fun v1q hq => k (v1q, hq)) s.1 s.2) s = b_X9_init_58 a (fun v1q hq => loopK (n - 1) (fun (k : Int32 × Hp → Option Hp) (s : Int32 × Hp) => b_X9_init_58 a (fun v1q hq => k (v1q, hq)) s.1 s.2) (v1q, hq)) s.1 s.2 := fun n s hn => by
    obtain ⟨m, rfl⟩ : ∃ m, n = m + 1 := ⟨n - 1, by omega⟩
    rfl
  unfold l_X9_init_58
  have fu : FUEL = 4294967296 := rfl
  rw [lk FUEL _ (by omega)]
  refine Eq.trans t0 ?_
  rw [lk (FUEL - 1) _ (by omega), show FUEL - 1 - 1 = FUEL - 2 by omega]
  refine Eq.trans t1 ?_
  rw [lk (FUEL - 2) _ (by omega)]
  show b_X9_init_58 a _ (J 2) g2 = _
  unfold b_X9_init_58
  rw [if_pos (show (2 : Int32) ≤ J 2 by decide)]
/-- a State as far as its rows of three -/
theorem X9_front (ht : hTag h a = 9) (ha : hTop h = a + 1) (hb : a + 100 < 900000) {R : Type} (K : Hp → Option Hp) : ∃ g, ((nw h 10 5).bind fun hh1 => (rc hh1 (hTop h) 10 (m_X10_init (hTop h) hh1)).bind fun x1 => (pfR x1 a 9 0 (hTop h)).bind fun hh2 => (pfI hh2 a 9 1 (0 : Int32)).bind fun hh3 => (pfI hh3 a 9 2 (-1 : Int32)).bind fun hh4 => (nw hh4 20 3).bind fun hh5 => (pfR hh5 a 9 3 (hTop hh4)).bind fun hh6 => (nw hh6 24 2).bind fun hh7 => (pfR hh7 a 9 4 (hTop hh6)).bind fun hh8 => (nw hh8 25 2).bind fun hh9 => (pfR hh9 a 9 5 (hTop hh8)).bind fun hh10 => (nw hh10 26 2).bind fun hh11 => (pfR hh11 a 9 6 (hTop hh10)).bind K) = K g ∧ GWH (fun b _ => b = a) (fun b _ => b = a) h g ∧ hTop g = a + 7 ∧ hUsed g = hUsed h + 614 ∧ X9h g a ∧ (hR g a 0 = a + 1 ∧ TT (top g) (a + 1)) ∧ (hR g a 3 = a + 3 ∧ TI (top g) (a + 3) 3) ∧ hI g (a + 1) 1 = 0 ∧ (∀ k, hI g (a + 2) k = 0) ∧ (∀ k, hI g (a + 3) k = 0) ∧ hI g a 1 = 0 ∧ hI g a 2 = -1 := by
  obtain ⟨g1, e1, G1, u1, v1, r1, x1, ⟨P1, P2, P3⟩, w1, H1⟩ := sub_ok (h := h) (a := a) (T := 9) (k := 0) (t := 10) (n := 5) (w := 2) (U := 600) (P := fun g => TT (top g) (hTop h) ∧ hI g (hTop h) 1 = 0 ∧ ∀ k, hI g (hTop h + 1) k = 0) m_X10_init ht (by omega) (by omega) (by omega) (fun h' t' h1 => by
    obtain ⟨g, e, G, u, v, s1, s2, s3⟩ := X10_init_ok (h := h') (a := hTop h) t' h1 (by omega)
    exact ⟨g, e, G, u, v, s1, s2, s3⟩)
  have t1 : hTag g1 a = 9 := by rw [G1.tag (by omega), ht]
  have T1 : TT (top g1) (hTop h) := P1.loc (fun b q r => H1.E (by omega) (fun k n => by omega))
  have Q2 : hI g1 (hTop h) 1 = 0 := by rw [H1.i (by omega) (fun q => q), P2]
  have Q3 : ∀ k, hI g1 (hTop h + 1) k = 0 := fun k => by rw [H1.i (by omega) (fun q => q)]; exact P3 k
  clear P1 P2 P3 H1 w1
  rw [ha] at u1 r1 T1 Q2 Q3
  obtain ⟨g2, e2, F2, i2⟩ := pf_ok (h := g1) (a := a) (T := 9) (k := 1) (z := (0 : Int32)) t1
  have t2 : hTag g2 a = 9 := by rw [F2.tag]; exact t1
  obtain ⟨g3, e3, F3, i3⟩ := pf_ok (h := g2) (a := a) (T := 9) (k := 2) (z := (-1 : Int32)) t2
  have t3 : hTag g3 a = 9 := by rw [F3.tag]; exact t2
  have p3 : hTop g3 = a + 3 := by rw [F3.2.1, F2.2.1, u1]
  have F13 : FR (fun b _ => b = a) g1 g3 := (F2.mono (fun b k q => q.1)).trans (F3.mono (fun b k q => q.1))
  have T3 : TT (top g3) (a + 1) := by rw [F13.1]; exact T1
  obtain ⟨g4, e4, G4, u4, v4, z⟩ := nwps_ok (a := a) (T := 9) (K := K) [(20, 3, 3), (24, 2, 4), (25, 2, 5), (26, 2, 6)] g3 t3 (by omega) (by simp only [List.length_cons, List.length_nil]; omega) (by decide)
  rw [p3] at z u4
  have z0 := z 0 _ rfl
  have z1 := z 1 _ rfl
  have z2 := z 2 _ rfl
  have z3 := z 3 _ rfl
  have y0' : hR g3 a 0 = hR g1 a 0 := congrFun (congrFun (congrArg (fun t : Tp => t.2.2) F13.1) a) 0
  have la : a < hTop g3 := by omega
  have l1 : a + 1 < hTop g3 := by omega
  have l2 : a + 2 < hTop g3 := by omega
  have t4 : hTag g4 a = 9 := by rw [G4.tag la, t3]
  have y0 : hR g4 a 0 = a + 1 := by
    rw [G4.r la (fun q => absurd q.2 (by decide)), y0', r1]
  have na : ∀ b k, a + 1 ≤ b → ¬ (b = a ∧ k ∈ [(20, 3, 3), (24, 2, 4), (25, 2, 5), (26, 2, 6)].map (fun q : Nat × Nat × Nat => q.2.2)) := fun b k b0 q => by
    have := q.1
    omega
  have T4 : TT (top g4) (a + 1) := T3.loc (fun b q r => G4.E (Nat.lt_of_le_of_lt r (by omega)) (fun k => na b k q))
  have j1 : hI g4 (a + 1) 1 = 0 := by rw [G4.i l1 (fun q => q), (F13.2.2.2 (a + 1) 1 (by omega)).1, Q2]
  have j2 : ∀ k, hI g4 (a + 2) k = 0 := fun k => by
    rw [G4.i l2 (fun q => q), (F13.2.2.2 (a + 2) k (by omega)).1]
    exact Q3 k
  have j3 : hI g4 a 1 = 0 := by rw [G4.i la (fun q => q), (F3.2.2.2 a 1 (by omega)).1, i2]
  have j4 : hI g4 a 2 = -1 := by rw [G4.i la (fun q => q), i3]
  have GA : GWH (fun b _ => b = a) (fun b _ => b = a) h g4 := ((G1.mono (fun _ _ _ q => q.elim) (fun b k _ q => q.1)).trans F13.gw).trans (G4.mono (fun _ _ _ q => q.elim) (fun b k _ q => q.1))
  have v4' : hUsed g4 = hUsed g3 + 9 := v4
  have v3 : hUsed g3 = hUsed g1 := F13.2.2.1
  refine ⟨g4, ?_, GA, u4, by rw [v4', v3, v1], ⟨t4, ⟨z1.2.2.2, z1.1, z1.2.1⟩, ⟨z2.2.2.2, z2.1, z2.2.1⟩, z3.2.2.2, z3.1, z3.2.1⟩, ⟨y0, T4⟩, ⟨z0.2.2.2, z0.1, z0.2.1⟩, j1, j2, fun k => congrFun z0.2.2.1.1 k, j3, j4⟩
  rw [e1, e2, bs, e3, bs]
  exact e4
theorem X9_init_ok (ht : hTag h a = 9) (ha : hTop h = a + 1) (hb : a + 100 < 900000) : ∃ g, m_X9_init a h = some g ∧ GWH (fun b _ => b = a) (fun b _ => b = a) h g ∧ hTop g = a + 41 ∧ hUsed g = hUsed h + 5996 ∧ TS9 (top g) a ∧ hI g (a + 1) 1 = 0 ∧ (∀ k, hI g (a + 2) k = 0) ∧ (∀ k, hI g (a + 3) k = 0) ∧ hI g a 1 = 0 ∧ hI g a 2 = -1 := by
  obtain ⟨g4, e4, G4, u4, v4, H4, ⟨y0, T0⟩, ⟨y3, T3⟩, j1, j2, j3, j4, j5⟩ := X9_front (R := Nat) ht ha hb (fun hh12 => l_X9_init_58 a (0 : Int32) hh12)
  obtain ⟨g, e5, F, u5, v5, J0, J1⟩ := X9_loop H4 u4 hb
  have H5 := H4.gw F (by omega) (fun k n => by omega)
  have la : a < hTop g4 := by omega
  have l1 : a + 1 < hTop g4 := by omega
  have l2 : a + 2 < hTop g4 := by omega
  have l3 : a + 3 < hTop g4 := by omega
  have GA : GWH (fun b _ => b = a) (fun b _ => b = a) h g := ((G4.mono (B' := fun b _ => b = a ∨ b = a + 4 ∨ b = a + 5 ∨ b = a + 6) (fun _ _ _ q => q) (fun b k _ q => Or.inl q)).trans (F.mono (fun _ _ _ q => q.elim) (fun b k _ q => Or.inr q))).mono (fun _ _ _ q => q) (fun b k hb q => by omega)
  obtain ⟨h1, ⟨h2, h3, h4⟩, ⟨h5, h6, h7⟩, h8, h9, h10⟩ := H5
  have sh : TS9 (top g) a := by
    refine ⟨h1, ⟨?_, T0.loc (fun b q r => F.E (by omega) (fun k n => by omega))⟩, ⟨?_, ?_, ?_⟩, ⟨h2, h3, h4⟩, ⟨h5, h6, h7⟩, ⟨h8, h9, h10⟩, fun i hi => ?_⟩
    · exact (F.r la (by omega)).trans y0
    · exact (F.r la (by omega)).trans y3
    · exact (F.tag l3).trans T3.1
    · exact (F.len l3).trans T3.2
    · obtain rfl | rfl : i = 0 ∨ i = 1 := by omega
      · exact J0
      · exact J1
  refine ⟨g, ?_, GA, u5, by rw [v5, v4], sh, ?_, fun k => ?_, fun k => ?_, ?_, ?_⟩
  · unfold m_X9_init
    rw [rc_ok ht, bs]
    exact e4.trans e5
  · rw [F.i l1 (fun q => q), j1]
  · rw [F.i l2 (fun q => q), j2]
  · rw [F.i l3 (fun q => q), j3]
  · rw [F.i la (fun q => q), j4]
  · rw [F.i la (fun q => q), j5]
end INS
