/-! PURE PART: constructors (printed by tools/gen97zm.py) -/
section INI
variable {h : Hp} {a : Nat}
theorem X0_init_ok (ht : hTag h a = 1) (ha : hTop h = a + 1) (hb : a + 50 < 900000) : ∃ g, m_X0_init a h = some g ∧ GWH (fun b _ => b = a) (fun b _ => b = a) h g ∧ hTop g = a + 10 ∧ hUsed g = hUsed h + 2584 ∧ TA (top g) a := by
  obtain ⟨g1, e1, F1, i1⟩ := pf_ok (h := h) (a := a) (T := 1) (k := 0) (z := (0 : Int32)) ht
  have t1 : hTag g1 a = 1 := by rw [F1.tag]; exact ht
  have p1 : hTop g1 = a + 1 := by rw [F1.2.1]; exact ha
  obtain ⟨g2, e2, F2, i2⟩ := pf_ok (h := g1) (a := a) (T := 1) (k := 1) (z := (0 : Int32)) t1
  have t2 : hTag g2 a = 1 := by rw [F2.tag]; exact t1
  have p2 : hTop g2 = a + 1 := by rw [F2.2.1]; exact p1
  obtain ⟨g3, e3, F3, i3⟩ := pf_ok (h := g2) (a := a) (T := 1) (k := 2) (z := (0 : Int32)) t2
  have t3 : hTag g3 a = 1 := by rw [F3.tag]; exact t2
  have p3 : hTop g3 = a + 1 := by rw [F3.2.1]; exact p2
  obtain ⟨gr, er, G, u1, u2, z⟩ := nwps_ok (a := a) (T := 1) (K := some) [(20, 4, 3), (20, 40, 4), (20, 40, 5), (20, 800, 6), (20, 340, 7), (20, 340, 8), (20, 340, 9), (20, 340, 10), (22, 340, 11)] g3 t3 (by omega) (by simp only [List.length_cons, List.length_nil]; omega) (by decide)
  rw [p3] at z u1
  have tr : hTag gr a = 1 := by rw [G.tag (by omega)]; exact t3
  have z0 := z 0 _ rfl
  have z1 := z 1 _ rfl
  have z2 := z 2 _ rfl
  have z3 := z 3 _ rfl
  have z4 := z 4 _ rfl
  have z5 := z 5 _ rfl
  have z6 := z 6 _ rfl
  have z7 := z 7 _ rfl
  have z8 := z 8 _ rfl
  have sh : TA (top gr) a := ⟨tr, (⟨(z0).2.2.2, (z0).1, (z0).2.1⟩ : hR gr a 3 = a + 1 ∧ hTag gr (a + 1) = 20 ∧ hLen gr (a + 1) = 4), (⟨(z1).2.2.2, (z1).1, (z1).2.1⟩ : hR gr a 4 = a + 2 ∧ hTag gr (a + 2) = 20 ∧ hLen gr (a + 2) = 40), (⟨(z2).2.2.2, (z2).1, (z2).2.1⟩ : hR gr a 5 = a + 3 ∧ hTag gr (a + 3) = 20 ∧ hLen gr (a + 3) = 40), (⟨(z3).2.2.2, (z3).1, (z3).2.1⟩ : hR gr a 6 = a + 4 ∧ hTag gr (a + 4) = 20 ∧ hLen gr (a + 4) = 800), (⟨(z4).2.2.2, (z4).1, (z4).2.1⟩ : hR gr a 7 = a + 5 ∧ hTag gr (a + 5) = 20 ∧ hLen gr (a + 5) = 340), (⟨(z5).2.2.2, (z5).1, (z5).2.1⟩ : hR gr a 8 = a + 6 ∧ hTag gr (a + 6) = 20 ∧ hLen gr (a + 6) = 340), (⟨(z6).2.2.2, (z6).1, (z6).2.1⟩ : hR gr a 9 = a + 7 ∧ hTag gr (a + 7) = 20 ∧ hLen gr (a + 7) = 340), (⟨(z7).2.2.2, (z7).1, (z7).2.1⟩ : hR gr a 10 = a + 8 ∧ hTag gr (a + 8) = 20 ∧ hLen gr (a + 8) = 340), (⟨(z8).2.2.2, (z8).1, (z8).2.1⟩ : hR gr a 11 = a + 9 ∧ hTag gr (a + 9) = 22 ∧ hLen gr (a + 9) = 340)⟩
  have GG : GWH (fun b _ => b = a) (fun b _ => b = a) h gr := (F1.mono (fun b k q => q.1)).gw.trans ((F2.mono (fun b k q => q.1)).gw.trans ((F3.mono (fun b k q => q.1)).gw.trans ((G.mono (fun b k _ q => q.elim) (fun b k _ q => q.1)))))
  refine ⟨gr, ?_, GG, by rw [u1]; rfl, by rw [u2, F3.2.2.1, F2.2.2.1, F1.2.2.1]; rfl, sh⟩
  · unfold m_X0_init
    rw [rc_ok ht, bs, e1, bs, e2, bs, e3, bs]
    exact er
theorem X6_init_ok (ht : hTag h a = 6) (ha : hTop h = a + 1) (hb : a + 50 < 900000) : ∃ g, m_X6_init a h = some g ∧ GWH (fun b _ => b = a) (fun b _ => b = a) h g ∧ hTop g = a + 5 ∧ hUsed g = hUsed h + 64 ∧ TQ (top g) a := by
  obtain ⟨g1, e1, F1, i1⟩ := pf_ok (h := h) (a := a) (T := 6) (k := 0) (z := (0 : Int32)) ht
  have t1 : hTag g1 a = 6 := by rw [F1.tag]; exact ht
  have p1 : hTop g1 = a + 1 := by rw [F1.2.1]; exact ha
  obtain ⟨gr, er, G, u1, u2, z⟩ := nwps_ok (a := a) (T := 6) (K := some) [(20, 8, 1), (20, 16, 2), (20, 8, 3), (20, 32, 4)] g1 t1 (by omega) (by simp only [List.length_cons, List.length_nil]; omega) (by decide)
  rw [p1] at z u1
  have tr : hTag gr a = 6 := by rw [G.tag (by omega)]; exact t1
  have z0 := z 0 _ rfl
  have z1 := z 1 _ rfl
  have z2 := z 2 _ rfl
  have z3 := z 3 _ rfl
  have sh : TQ (top gr) a := ⟨tr, (⟨(z0).2.2.2, (z0).1, (z0).2.1⟩ : hR gr a 1 = a + 1 ∧ hTag gr (a + 1) = 20 ∧ hLen gr (a + 1) = 8), (⟨(z1).2.2.2, (z1).1, (z1).2.1⟩ : hR gr a 2 = a + 2 ∧ hTag gr (a + 2) = 20 ∧ hLen gr (a + 2) = 16), (⟨(z2).2.2.2, (z2).1, (z2).2.1⟩ : hR gr a 3 = a + 3 ∧ hTag gr (a + 3) = 20 ∧ hLen gr (a + 3) = 8), (⟨(z3).2.2.2, (z3).1, (z3).2.1⟩ : hR gr a 4 = a + 4 ∧ hTag gr (a + 4) = 20 ∧ hLen gr (a + 4) = 32)⟩
  have GG : GWH (fun b _ => b = a) (fun b _ => b = a) h gr := (F1.mono (fun b k q => q.1)).gw.trans ((G.mono (fun b k _ q => q.elim) (fun b k _ q => q.1)))
  refine ⟨gr, ?_, GG, by rw [u1]; rfl, by rw [u2, F1.2.2.1]; rfl, sh⟩
  · unfold m_X6_init
    rw [rc_ok ht, bs, e1, bs]
    exact er
theorem X3_init_ok (ht : hTag h a = 4) (ha : hTop h = a + 1) (hb : a + 50 < 900000) : ∃ g, m_X3_init a h = some g ∧ GWH (fun b _ => b = a) (fun b _ => b = a) h g ∧ hTop g = a + 2 ∧ hUsed g = hUsed h + 24 ∧ TU (top g) a := by
  obtain ⟨g1, e1, F1, i1⟩ := pf_ok (h := h) (a := a) (T := 4) (k := 0) (z := (0 : Int32)) ht
  have t1 : hTag g1 a = 4 := by rw [F1.tag]; exact ht
  have p1 : hTop g1 = a + 1 := by rw [F1.2.1]; exact ha
  obtain ⟨gr, er, G, u1, u2, z⟩ := nwps_ok (a := a) (T := 4) (K := some) [(20, 24, 1)] g1 t1 (by omega) (by simp only [List.length_cons, List.length_nil]; omega) (by decide)
  rw [p1] at z u1
  have tr : hTag gr a = 4 := by rw [G.tag (by omega)]; exact t1
  have z0 := z 0 _ rfl
  have sh : TU (top gr) a := ⟨tr, (⟨(z0).2.2.2, (z0).1, (z0).2.1⟩ : hR gr a 1 = a + 1 ∧ hTag gr (a + 1) = 20 ∧ hLen gr (a + 1) = 24)⟩
  have GG : GWH (fun b _ => b = a) (fun b _ => b = a) h gr := (F1.mono (fun b k q => q.1)).gw.trans ((G.mono (fun b k _ q => q.elim) (fun b k _ q => q.1)))
  refine ⟨gr, ?_, GG, by rw [u1]; rfl, by rw [u2, F1.2.2.1]; rfl, sh⟩
  · unfold m_X3_init
    rw [rc_ok ht, bs, e1, bs]
    exact er
theorem X4_init_ok (ht : hTag h a = 5) (ha : hTop h = a + 1) (hb : a + 50 < 900000) : ∃ g, m_X4_init a h = some g ∧ GWH (fun b _ => b = a) (fun b _ => b = a) h g ∧ hTop g = a + 5 ∧ hUsed g = hUsed h + 48 ∧ TLn (top g) a := by
  obtain ⟨g1, e1, F1, i1⟩ := pf_ok (h := h) (a := a) (T := 5) (k := 0) (z := (-1 : Int32)) ht
  have t1 : hTag g1 a = 5 := by rw [F1.tag]; exact ht
  have p1 : hTop g1 = a + 1 := by rw [F1.2.1]; exact ha
  obtain ⟨g2, e2, F2, i2⟩ := pf_ok (h := g1) (a := a) (T := 5) (k := 1) (z := (0 : Int32)) t1
  have t2 : hTag g2 a = 5 := by rw [F2.tag]; exact t1
  have p2 : hTop g2 = a + 1 := by rw [F2.2.1]; exact p1
  obtain ⟨g3, e3, F3, i3⟩ := pf_ok (h := g2) (a := a) (T := 5) (k := 2) (z := (0 : Int32)) t2
  have t3 : hTag g3 a = 5 := by rw [F3.tag]; exact t2
  have p3 : hTop g3 = a + 1 := by rw [F3.2.1]; exact p2
  obtain ⟨g4, e4, F4, i4⟩ := pf_ok (h := g3) (a := a) (T := 5) (k := 3) (z := (0 : Int32)) t3
  have t4 : hTag g4 a = 5 := by rw [F4.tag]; exact t3
  have p4 : hTop g4 = a + 1 := by rw [F4.2.1]; exact p3
  obtain ⟨g5, e5, F5, i5⟩ := pf_ok (h := g4) (a := a) (T := 5) (k := 4) (z := (-1 : Int32)) t4
  have t5 : hTag g5 a = 5 := by rw [F5.tag]; exact t4
  have p5 : hTop g5 = a + 1 := by rw [F5.2.1]; exact p4
  obtain ⟨gr, er, G, u1, u2, z⟩ := nwps_ok (a := a) (T := 5) (K := some) [(20, 3, 5), (20, 3, 6), (20, 21, 7), (20, 21, 8)] g5 t5 (by omega) (by simp only [List.length_cons, List.length_nil]; omega) (by decide)
  rw [p5] at z u1
  have tr : hTag gr a = 5 := by rw [G.tag (by omega)]; exact t5
  have z0 := z 0 _ rfl
  have z1 := z 1 _ rfl
  have z2 := z 2 _ rfl
  have z3 := z 3 _ rfl
  have sh : TLn (top gr) a := ⟨tr, (⟨(z0).2.2.2, (z0).1, (z0).2.1⟩ : hR gr a 5 = a + 1 ∧ hTag gr (a + 1) = 20 ∧ hLen gr (a + 1) = 3), (⟨(z1).2.2.2, (z1).1, (z1).2.1⟩ : hR gr a 6 = a + 2 ∧ hTag gr (a + 2) = 20 ∧ hLen gr (a + 2) = 3), (⟨(z2).2.2.2, (z2).1, (z2).2.1⟩ : hR gr a 7 = a + 3 ∧ hTag gr (a + 3) = 20 ∧ hLen gr (a + 3) = 21), (⟨(z3).2.2.2, (z3).1, (z3).2.1⟩ : hR gr a 8 = a + 4 ∧ hTag gr (a + 4) = 20 ∧ hLen gr (a + 4) = 21)⟩
  have GG : GWH (fun b _ => b = a) (fun b _ => b = a) h gr := (F1.mono (fun b k q => q.1)).gw.trans ((F2.mono (fun b k q => q.1)).gw.trans ((F3.mono (fun b k q => q.1)).gw.trans ((F4.mono (fun b k q => q.1)).gw.trans ((F5.mono (fun b k q => q.1)).gw.trans ((G.mono (fun b k _ q => q.elim) (fun b k _ q => q.1)))))))
  refine ⟨gr, ?_, GG, by rw [u1]; rfl, by rw [u2, F5.2.2.1, F4.2.2.1, F3.2.2.1, F2.2.2.1, F1.2.2.1]; rfl, sh⟩
  · unfold m_X4_init
    rw [rc_ok ht, bs, e1, bs, e2, bs, e3, bs, e4, bs, e5, bs]
    exact er
theorem X2_init_ok (ht : hTag h a = 3) (ha : hTop h = a + 1) (hb : a + 50 < 900000) : ∃ g, m_X2_init a h = some g ∧ GWH (fun b _ => b = a) (fun b _ => b = a) h g ∧ hTop g = a + 2 ∧ hUsed g = hUsed h + 21 ∧ TH (top g) a := by
  obtain ⟨gr, er, G, u1, u2, z⟩ := nwps_ok (a := a) (T := 3) (K := some) [(20, 21, 0)] h ht (by omega) (by simp only [List.length_cons, List.length_nil]; omega) (by decide)
  rw [ha] at z u1
  have tr : hTag gr a = 3 := by rw [G.tag (by omega)]; exact ht
  have z0 := z 0 _ rfl
  have sh : TH (top gr) a := ⟨tr, (⟨(z0).2.2.2, (z0).1, (z0).2.1⟩ : hR gr a 0 = a + 1 ∧ hTag gr (a + 1) = 20 ∧ hLen gr (a + 1) = 21)⟩
  have GG : GWH (fun b _ => b = a) (fun b _ => b = a) h gr := (G.mono (fun b k _ q => q.elim) (fun b k _ q => q.1))
  refine ⟨gr, ?_, GG, by rw [u1]; rfl, by rw [u2]; rfl, sh⟩
  · unfold m_X2_init
    rw [rc_ok ht, bs]
    exact er
theorem X8_init_ok (ht : hTag h a = 8) (ha : hTop h = a + 1) (hb : a + 50 < 900000) : ∃ g, m_X8_init a h = some g ∧ GWH (fun b _ => b = a) (fun b _ => b = a) h g ∧ hTop g = a + 2 ∧ hUsed g = hUsed h + 32 ∧ TS8 (top g) a := by
  obtain ⟨gr, er, G, u1, u2, z⟩ := nwps_ok (a := a) (T := 8) (K := some) [(20, 32, 0)] h ht (by omega) (by simp only [List.length_cons, List.length_nil]; omega) (by decide)
  rw [ha] at z u1
  have tr : hTag gr a = 8 := by rw [G.tag (by omega)]; exact ht
  have z0 := z 0 _ rfl
  have sh : TS8 (top gr) a := ⟨tr, (⟨(z0).2.2.2, (z0).1, (z0).2.1⟩ : hR gr a 0 = a + 1 ∧ hTag gr (a + 1) = 20 ∧ hLen gr (a + 1) = 32)⟩
  have GG : GWH (fun b _ => b = a) (fun b _ => b = a) h gr := (G.mono (fun b k _ q => q.elim) (fun b k _ q => q.1))
  refine ⟨gr, ?_, GG, by rw [u1]; rfl, by rw [u2]; rfl, sh⟩
  · unfold m_X8_init
    rw [rc_ok ht, bs]
    exact er
theorem X10_init_ok (ht : hTag h a = 10) (ha : hTop h = a + 1) (hb : a + 50 < 900000) : ∃ g, m_X10_init a h = some g ∧ GWH (fun b _ => b = a) (fun b _ => b = a) h g ∧ hTop g = a + 2 ∧ hUsed g = hUsed h + 600 ∧ TT (top g) a ∧ hI g a 1 = 0 ∧ ∀ k, hI g (a + 1) k = 0 := by
  obtain ⟨gr, er, G, u1, u2, z⟩ := nwps_ok (a := a) (T := 10) (K := (fun hz => (pfI hz a 10 1 (0 : Int32)).bind fun hq0 => (pfI hq0 a 10 2 (0 : Int32)).bind fun hq1 => (pfI hq1 a 10 3 (0 : Int32)).bind fun hq2 => (pfI hq2 a 10 4 (0 : Int32)).bind fun hq3 => some hq3)) [(21, 600, 0)] h ht (by omega) (by simp only [List.length_cons, List.length_nil]; omega) (by decide)
  rw [ha] at z u1
  have tr : hTag gr a = 10 := by rw [G.tag (by omega)]; exact ht
  obtain ⟨k0, d0, D0, v0⟩ := pf_ok (h := gr) (a := a) (T := 10) (k := 1) (z := (0 : Int32)) tr
  have s0 : hTag k0 a = 10 := by rw [D0.tag]; exact tr
  obtain ⟨k1, d1, D1, v1⟩ := pf_ok (h := k0) (a := a) (T := 10) (k := 2) (z := (0 : Int32)) s0
  have s1 : hTag k1 a = 10 := by rw [D1.tag]; exact s0
  obtain ⟨k2, d2, D2, v2⟩ := pf_ok (h := k1) (a := a) (T := 10) (k := 3) (z := (0 : Int32)) s1
  have s2 : hTag k2 a = 10 := by rw [D2.tag]; exact s1
  obtain ⟨k3, d3, D3, v3⟩ := pf_ok (h := k2) (a := a) (T := 10) (k := 4) (z := (0 : Int32)) s2
  have s3 : hTag k3 a = 10 := by rw [D3.tag]; exact s2
  have z0 := z 0 _ rfl
  have sh : TT (top gr) a := ⟨tr, (⟨(z0).2.2.2, (z0).1, (z0).2.1⟩ : hR gr a 0 = a + 1 ∧ hTag gr (a + 1) = 21 ∧ hLen gr (a + 1) = 600)⟩
  have GG : GWH (fun b _ => b = a) (fun b _ => b = a) h k3 := (((((G.mono (fun b k _ q => q.elim) (fun b k _ q => q.1))).trans (D0.mono (fun b k q => q.1)).gw).trans (D1.mono (fun b k q => q.1)).gw).trans (D2.mono (fun b k q => q.1)).gw).trans (D3.mono (fun b k q => q.1)).gw
  refine ⟨k3, ?_, GG, by rw [D3.2.1, D2.2.1, D1.2.1, D0.2.1, u1]; rfl, by rw [D3.2.2.1, D2.2.2.1, D1.2.2.1, D0.2.2.1, u2]; rfl, by rw [D3.1, D2.1, D1.1, D0.1]; exact sh, ?_, fun k => ?_⟩
  · unfold m_X10_init
    rw [rc_ok ht, bs]
    refine Eq.trans er ?_
    show ((pfI gr a 10 1 (0 : Int32)).bind fun hq0 => (pfI hq0 a 10 2 (0 : Int32)).bind fun hq1 => (pfI hq1 a 10 3 (0 : Int32)).bind fun hq2 => (pfI hq2 a 10 4 (0 : Int32)).bind fun hq3 => some hq3) = _
    rw [d0, bs, d1, bs, d2, bs, d3, bs]
  · rw [(D3.2.2.2 a 1 (by omega)).1, (D2.2.2.2 a 1 (by omega)).1, (D1.2.2.2 a 1 (by omega)).1, v0]
  · rw [(D3.2.2.2 (a + 1) k (by omega)).1, (D2.2.2.2 (a + 1) k (by omega)).1, (D1.2.2.2 (a + 1) k (by omega)).1, (D0.2.2.2 (a + 1) k (by omega)).1]
    exact congrFun z0.2.2.1.1 k
end INI
