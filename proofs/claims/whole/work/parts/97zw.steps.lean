/-! PURE PART: the law's loop, a step for each call (printed by tools/gen97zw.py) -/
def Scr (g : Hp) (L : Nat) (xs : Nat → Int32) : Prop := hLen g 1 = L ∧ hI g 1 = xs
section LAW
variable {h : Hp} {x o L : Nat} {xs : Nat → Int32} {S : Sx}
theorem alX_ok {g : Hp} (s : Scr g L xs) (hL : L ≤ 3584) {p : Int} (p0 : 0 ≤ p) (p1 : p < L) : alX g (J p) = some (J (xs p.toNat).toInt) := by
  unfold alX
  rw [if_pos (show inB (J p) (hLen g 1) = true by rw [s.1]; exact inB_ok p0 p1 (by omega)), s.2, J_nat (by omega) (by omega), J_inv]
theorem jend {v1 v2 : Nat} {a : Int} {k : Int32 → Hp → Option (Int32 × Hp)} : j_L_law_1254 v1 v2 (J a) h k = k (J (a + 7)) h := by
  unfold j_L_law_1254
  rw [show (7 : Int32) = J 7 from rfl, J_add]
theorem INV.qy {c : Option Int32} {r : Hp → Option (Int32 × Hp)} (I : INV h x o L xs) (M : SBo h x o S) (q : Qy h x o c r) : ∃ v h2, c = some (J v) ∧ r h = some (J v, h2) ∧ INV h2 x o L xs := by
  obtain ⟨v, h2, e1, e2, F⟩ := q
  exact ⟨v, h2, e1, e2, I.step (F.mono (fun b k => Asc_St)) (M.frame F)⟩
theorem INV.sp {c : Option (Int32 × Hp)} {r : Hp → Option (Int32 × Hp)} (I : INV h x o L xs) (M : SBo h x o S) (q : Sp h x o c r) : ∃ v h1 h2, c = some (J v, h1) ∧ r h1 = some (J v, h2) ∧ INV h2 x o L xs ∧ hTag h1 o = 12 ∧ Scr h1 L xs := by
  obtain ⟨v, h1, h2, S', e1, e2, F, M2, F1⟩ := q
  have x1 := I.2.1.2.2.2.2.1
  have xo := M.2.2.2.2.1
  have R1 := I.2.1.frame F1 (fun k q => by unfold St A0 at q; omega)
  exact ⟨v, h1, h2, e1, e2, I.step F M2, by rw [F1.tag]; exact M.2.2.1.1.tag, R1.1⟩
theorem INV.img (I : INV h x o L xs) {w : Int} (w0 : -2147483648 ≤ w) (w1 : w < 2147483648) : ∃ v h1 h2, m_X11_image x (J w) h = some (J v, h1) ∧ m_X12_image o (J w) h1 = some (J v, h2) ∧ INV h2 x o L xs ∧ hTag h1 o = 12 ∧ Scr h1 L xs := by
  by_cases c : 0 ≤ w ∧ w < 3
  · obtain ⟨h1, h2, e1, e2, I2, t, s⟩ := I.image (j := w.toNat) (by omega)
    rw [show ((w.toNat : Nat) : Int) = w by omega] at e1 e2
    exact ⟨1, h1, h2, e1, e2, I2, t, s⟩
  · obtain ⟨S, M⟩ := I.1
    obtain ⟨⟨h2, e1, e2, F, M2⟩, -⟩ := M.imageNo w0 w1 (by omega)
    exact ⟨0, h, h2, e1, e2, I.step F M2, M.2.2.1.1.tag, I.2.1.1⟩
theorem INV.agn (I : INV h x o L xs) {w : Int} (w0 : -2147483648 ≤ w) (w1 : w < 2147483648) : ∃ v h1 h2, m_X11_again x (J w) h = some (J v, h1) ∧ m_X12_again o (J w) h1 = some (J v, h2) ∧ INV h2 x o L xs ∧ hTag h1 o = 12 ∧ Scr h1 L xs := by
  by_cases c : 0 ≤ w ∧ w < 3
  · obtain ⟨v, h1, h2, e1, e2, I2, t, s⟩ := I.again (j := w.toNat) (by omega)
    rw [show ((w.toNat : Nat) : Int) = w by omega] at e1 e2
    exact ⟨v, h1, h2, e1, e2, I2, t, s⟩
  · obtain ⟨S, M⟩ := I.1
    obtain ⟨-, h2, e1, e2, F, M2⟩ := M.imageNo w0 w1 (by omega)
    exact ⟨0, h, h2, e1, e2, I.step F M2, M.2.2.1.1.tag, I.2.1.1⟩
theorem law_step (I : INV h x o L xs) (hL : L ≤ 3584) {a : Int} (a0 : 0 ≤ a) (a1 : a + 7 ≤ L) (k : Int32 → Hp → Option (Int32 × Hp)) : ∃ h', INV h' x o L xs ∧ b_L_law_18 x o k (J a) h = k (J (a + 7)) h' := by
  obtain ⟨S, M⟩ := I.1
  have s : Scr h L xs := I.2.1.1
  have lc : ¬ ((Int32.ofNat (hLen h 1)) - (7 : Int32)) < J a := by
    rw [s.1, show Int32.ofNat L = J (L : Int) from rfl, show (7 : Int32) = J 7 from rfl, J_sub, J_lt (by omega) (by omega) (by omega) (by omega)]
    omega
  have A0 : alX h (J a) = some (J (xs a.toNat).toInt) := alX_ok s hL a0 (by omega)
  have A1 : ∀ g, Scr g L xs → alX g (J a + (1 : Int32)) = some (J (xs (a + 1).toNat).toInt) := fun g s => by
    rw [show (1 : Int32) = J 1 from rfl, J_add]
    exact alX_ok s hL (by omega) (by omega)
  have A2 : ∀ g, Scr g L xs → alX g (J a + (2 : Int32)) = some (J (xs (a + 2).toNat).toInt) := fun g s => by
    rw [show (2 : Int32) = J 2 from rfl, J_add]
    exact alX_ok s hL (by omega) (by omega)
  have A3 : ∀ g, Scr g L xs → alX g (J a + (3 : Int32)) = some (J (xs (a + 3).toNat).toInt) := fun g s => by
    rw [show (3 : Int32) = J 3 from rfl, J_add]
    exact alX_ok s hL (by omega) (by omega)
  have A4 : ∀ g, Scr g L xs → alX g (J a + (4 : Int32)) = some (J (xs (a + 4).toNat).toInt) := fun g s => by
    rw [show (4 : Int32) = J 4 from rfl, J_add]
    exact alX_ok s hL (by omega) (by omega)
  have A5 : ∀ g, Scr g L xs → alX g (J a + (5 : Int32)) = some (J (xs (a + 5).toNat).toInt) := fun g s => by
    rw [show (5 : Int32) = J 5 from rfl, J_add]
    exact alX_ok s hL (by omega) (by omega)
  have A6 : ∀ g, Scr g L xs → alX g (J a + (6 : Int32)) = some (J (xs (a + 6).toNat).toInt) := fun g s => by
    rw [show (6 : Int32) = J 6 from rfl, J_add]
    exact alX_ok s hL (by omega) (by omega)
  have R0 := J_rg (xs a.toNat)
  have R1 := J_rg (xs (a + 1).toNat)
  have R2 := J_rg (xs (a + 2).toNat)
  have R3 := J_rg (xs (a + 3).toNat)
  have R4 := J_rg (xs (a + 4).toNat)
  have R5 := J_rg (xs (a + 5).toNat)
  have R6 := J_rg (xs (a + 6).toNat)
  have tx := M.tag
  have tr := M.2.2.1.1.tag
  generalize (xs a.toNat).toInt = w0 at *
  generalize (xs (a + 1).toNat).toInt = w1 at *
  generalize (xs (a + 2).toNat).toInt = w2 at *
  generalize (xs (a + 3).toNat).toInt = w3 at *
  generalize (xs (a + 4).toNat).toInt = w4 at *
  generalize (xs (a + 5).toNat).toInt = w5 at *
  generalize (xs (a + 6).toNat).toInt = w6 at *
  unfold b_L_law_18
  rw [if_neg lc, A0, bs]
  by_cases c0 : J w0 &&& (31 : Int32) = (0 : Int32)
  · rw [if_pos c0]
    obtain ⟨v, h1, h2, e1, e2, I2, t1, s1⟩ := I.sp M (M.feed (J w1) (J w2) (J w3) (J w4) (J w5))
    refine ⟨h2, I2, ?_⟩
    simp only [A1 h s, A2 h s, A3 h s, A4 h s, A5 h s, bs, rc_ok tx, e1, A1 h1 s1, A2 h1 s1, A3 h1 s1, A4 h1 s1, A5 h1 s1, rc_ok t1, e2, if_true, jend]
  rw [if_neg c0]
  by_cases c1 : J w0 &&& (31 : Int32) = (1 : Int32)
  · rw [if_pos c1]
    obtain ⟨v, h1, h2, e1, e2, I2, t1, s1⟩ := I.sp M (M.end_ R1.1 R1.2)
    refine ⟨h2, I2, ?_⟩
    simp only [A1 h s, bs, rc_ok tx, e1, A1 h1 s1, rc_ok t1, e2, if_true, jend]
  rw [if_neg c1]
  by_cases c2 : J w0 &&& (31 : Int32) = (2 : Int32)
  · rw [if_pos c2]
    obtain ⟨v, h1, h2, e1, e2, I2, t1, s1⟩ := I.sp M (M.text R1.1 R1.2 R2.1 R2.2)
    refine ⟨h2, I2, ?_⟩
    simp only [A1 h s, A2 h s, bs, rc_ok tx, e1, A1 h1 s1, A2 h1 s1, rc_ok t1, e2, if_true, jend]
  rw [if_neg c2]
  by_cases c3 : J w0 &&& (31 : Int32) = (3 : Int32)
  · rw [if_pos c3]
    obtain ⟨v, h2, e1, e2, I2⟩ := I.qy M (M.fault R1.1 R1.2)
    refine ⟨h2, I2, ?_⟩
    simp only [A1 h s, bs, rc_ok tx, rc_ok tr, e1, e2, if_true, jend]
  rw [if_neg c3]
  by_cases c4 : J w0 &&& (31 : Int32) = (4 : Int32)
  · rw [if_pos c4]
    obtain ⟨v, h2, e1, e2, I2⟩ := I.qy M (M.archive R1.1 R1.2 R2.1 R2.2)
    refine ⟨h2, I2, ?_⟩
    simp only [A1 h s, A2 h s, bs, rc_ok tx, rc_ok tr, e1, e2, if_true, jend]
  rw [if_neg c4]
  by_cases c5 : J w0 &&& (31 : Int32) = (5 : Int32)
  · rw [if_pos c5]
    obtain ⟨v, h2, e1, e2, I2⟩ := I.qy M (M.version R1.1 R1.2 R2.1 R2.2 R3.1 R3.2 R4.1 R4.2)
    refine ⟨h2, I2, ?_⟩
    simp only [A1 h s, A2 h s, A3 h s, A4 h s, bs, rc_ok tx, rc_ok tr, e1, e2, if_true, jend]
  rw [if_neg c5]
  by_cases c6 : J w0 &&& (31 : Int32) = (6 : Int32)
  · rw [if_pos c6]
    obtain ⟨v, h2, e1, e2, I2⟩ := I.qy M (M.life R1.1 R1.2 R2.1 R2.2 R3.1 R3.2 R4.1 R4.2 R5.1 R5.2)
    refine ⟨h2, I2, ?_⟩
    simp only [A1 h s, A2 h s, A3 h s, A4 h s, A5 h s, bs, rc_ok tx, rc_ok tr, e1, e2, if_true, jend]
  rw [if_neg c6]
  by_cases c7 : J w0 &&& (31 : Int32) = (7 : Int32)
  · rw [if_pos c7]
    obtain ⟨v, h2, e1, e2, I2⟩ := I.qy M (M.word R1.1 R1.2 R2.1 R2.2 R3.1 R3.2)
    refine ⟨h2, I2, ?_⟩
    simp only [A1 h s, A2 h s, A3 h s, bs, rc_ok tx, rc_ok tr, e1, e2, if_true, jend]
  rw [if_neg c7]
  by_cases c8 : J w0 &&& (31 : Int32) = (8 : Int32)
  · rw [if_pos c8]
    obtain ⟨v, h2, e1, e2, I2⟩ := I.qy M (M.dated R1.1 R1.2 R2.1 R2.2)
    refine ⟨h2, I2, ?_⟩
    simp only [A1 h s, A2 h s, bs, rc_ok tx, rc_ok tr, e1, e2, if_true, jend]
  rw [if_neg c8]
  by_cases c9 : J w0 &&& (31 : Int32) = (9 : Int32)
  · rw [if_pos c9]
    obtain ⟨v, h2, e1, e2, I2⟩ := I.qy M (M.shared R1.1 R1.2 R2.1 R2.2 R3.1 R3.2 R4.1 R4.2)
    refine ⟨h2, I2, ?_⟩
    simp only [A1 h s, A2 h s, A3 h s, A4 h s, bs, rc_ok tx, rc_ok tr, e1, e2, if_true, jend]
  rw [if_neg c9]
  by_cases c10 : J w0 &&& (31 : Int32) = (10 : Int32)
  · rw [if_pos c10]
    obtain ⟨v, h1, h2, e1, e2, I2, t1, s1⟩ := I.sp M (Qh.sp M (M.common R1.1 R1.2 R2.1 R2.2 R3.1 R3.2 R4.1 R4.2 R5.1 R5.2))
    refine ⟨h2, I2, ?_⟩
    simp only [A1 h s, A2 h s, A3 h s, A4 h s, A5 h s, bs, rc_ok tx, e1, A1 h1 s1, A2 h1 s1, A3 h1 s1, A4 h1 s1, A5 h1 s1, rc_ok t1, e2, if_true, jend]
  rw [if_neg c10]
  by_cases c11 : J w0 &&& (31 : Int32) = (11 : Int32)
  · rw [if_pos c11]
    obtain ⟨v, h2, e1, e2, I2⟩ := I.qy M (M.question R1.1 R1.2 R2.1 R2.2 R3.1 R3.2)
    refine ⟨h2, I2, ?_⟩
    simp only [A1 h s, A2 h s, A3 h s, bs, rc_ok tx, rc_ok tr, e1, e2, if_true, jend]
  rw [if_neg c11]
  by_cases c12 : J w0 &&& (31 : Int32) = (12 : Int32)
  · rw [if_pos c12]
    obtain ⟨v, h1, h2, e1, e2, I2, t1, s1⟩ := I.sp M (Qh.sp M (M.holds R1.1 R1.2 R2.1 R2.2 R3.1 R3.2 R4.1 R4.2 R5.1 R5.2))
    refine ⟨h2, I2, ?_⟩
    simp only [A1 h s, A2 h s, A3 h s, A4 h s, A5 h s, bs, rc_ok tx, e1, A1 h1 s1, A2 h1 s1, A3 h1 s1, A4 h1 s1, A5 h1 s1, rc_ok t1, e2, if_true, jend]
  rw [if_neg c12]
  by_cases c13 : J w0 &&& (31 : Int32) = (13 : Int32)
  · rw [if_pos c13]
    by_cases z6 : J w6 = 0
    · obtain ⟨v, h1, h2, e1, e2, I2, t1, s1⟩ := I.sp M (Qh.sp M (M.spans (b := false) R1.1 R1.2 R2.1 R2.2 R3.1 R3.2 R4.1 R4.2 R5.1 R5.2))
      refine ⟨h2, I2, ?_⟩
      have e1' : m_X11_spans x (J w1) (J w2) (J w3) (J w4) (J w5) (0 : Int32) h = some (J v, h1) := e1
      have e2' : m_X12_spans o (J w1) (J w2) (J w3) (J w4) (J w5) (0 : Int32) h1 = some (J v, h2) := e2
      simp only [A1 h s, A2 h s, A3 h s, A4 h s, A5 h s, A6 h s, bs, if_pos z6, j_L_law_773, rc_ok tx, e1', A1 h1 s1, A2 h1 s1, A3 h1 s1, A4 h1 s1, A5 h1 s1, A6 h1 s1, j_L_law_816, rc_ok t1, e2', if_true, jend]
    · obtain ⟨v, h1, h2, e1, e2, I2, t1, s1⟩ := I.sp M (Qh.sp M (M.spans (b := true) R1.1 R1.2 R2.1 R2.2 R3.1 R3.2 R4.1 R4.2 R5.1 R5.2))
      refine ⟨h2, I2, ?_⟩
      have e1' : m_X11_spans x (J w1) (J w2) (J w3) (J w4) (J w5) (1 : Int32) h = some (J v, h1) := e1
      have e2' : m_X12_spans o (J w1) (J w2) (J w3) (J w4) (J w5) (1 : Int32) h1 = some (J v, h2) := e2
      simp only [A1 h s, A2 h s, A3 h s, A4 h s, A5 h s, A6 h s, bs, if_neg z6, j_L_law_773, rc_ok tx, e1', A1 h1 s1, A2 h1 s1, A3 h1 s1, A4 h1 s1, A5 h1 s1, A6 h1 s1, j_L_law_816, rc_ok t1, e2', if_true, jend]
  rw [if_neg c13]
  by_cases c14 : J w0 &&& (31 : Int32) = (14 : Int32)
  · rw [if_pos c14]
    obtain ⟨v, h2, e1, e2, I2⟩ := I.qy M (M.times R1.1 R1.2 R2.1 R2.2 R3.1 R3.2 R4.1 R4.2 R5.1 R5.2)
    refine ⟨h2, I2, ?_⟩
    simp only [A1 h s, A2 h s, A3 h s, A4 h s, A5 h s, bs, rc_ok tx, rc_ok tr, e1, e2, if_true, jend]
  rw [if_neg c14]
  by_cases c15 : J w0 &&& (31 : Int32) = (15 : Int32)
  · rw [if_pos c15]
    obtain ⟨v, h1, h2, e1, e2, I2, t1, s1⟩ := I.sp M (Qh.sp M (M.found R1.1 R1.2 R2.1 R2.2 R3.1 R3.2 R4.1 R4.2))
    refine ⟨h2, I2, ?_⟩
    simp only [A1 h s, A2 h s, A3 h s, A4 h s, bs, rc_ok tx, e1, A1 h1 s1, A2 h1 s1, A3 h1 s1, A4 h1 s1, rc_ok t1, e2, if_true, jend]
  rw [if_neg c15]
  by_cases c16 : J w0 &&& (31 : Int32) = (16 : Int32)
  · rw [if_pos c16]
    obtain ⟨v, h1, h2, e1, e2, I2, t1, s1⟩ := I.sp M (Qh.sp M (M.best R1.1 R1.2 R2.1 R2.2 R3.1 R3.2))
    refine ⟨h2, I2, ?_⟩
    simp only [A1 h s, A2 h s, A3 h s, bs, rc_ok tx, e1, A1 h1 s1, A2 h1 s1, A3 h1 s1, rc_ok t1, e2, if_true, jend]
  rw [if_neg c16]
  by_cases c17 : J w0 &&& (31 : Int32) = (17 : Int32)
  · rw [if_pos c17]
    obtain ⟨v, h1, h2, e1, e2, I2, t1, s1⟩ := I.sp M (Qh.sp M (M.implies R1.1 R1.2 R2.1 R2.2 R3.1 R3.2 R4.1 R4.2))
    refine ⟨h2, I2, ?_⟩
    simp only [A1 h s, A2 h s, A3 h s, A4 h s, bs, rc_ok tx, e1, A1 h1 s1, A2 h1 s1, A3 h1 s1, A4 h1 s1, rc_ok t1, e2, if_true, jend]
  rw [if_neg c17]
  by_cases c18 : J w0 &&& (31 : Int32) = (18 : Int32)
  · rw [if_pos c18]
    obtain ⟨v, h2, e1, e2, I2⟩ := I.qy M (M.fact R1.1 R1.2 R2.1 R2.2 R3.1 R3.2)
    refine ⟨h2, I2, ?_⟩
    simp only [A1 h s, A2 h s, A3 h s, bs, rc_ok tx, rc_ok tr, e1, e2, if_true, jend]
  rw [if_neg c18]
  by_cases c19 : J w0 &&& (31 : Int32) = (19 : Int32)
  · rw [if_pos c19]
    obtain ⟨v, h2, e1, e2, I2⟩ := I.qy M (M.fits R1.1 R1.2 R2.1 R2.2 R3.1 R3.2)
    refine ⟨h2, I2, ?_⟩
    simp only [A1 h s, A2 h s, A3 h s, bs, rc_ok tx, rc_ok tr, e1, e2, if_true, jend]
  rw [if_neg c19]
  by_cases c20 : J w0 &&& (31 : Int32) = (20 : Int32)
  · rw [if_pos c20]
    obtain ⟨v, h1, h2, e1, e2, I2, t1, s1⟩ := I.sp M (Qh.sp M (M.drawn R1.1 R1.2 R2.1 R2.2 R3.1 R3.2 R4.1 R4.2 R5.1 R5.2))
    refine ⟨h2, I2, ?_⟩
    simp only [A1 h s, A2 h s, A3 h s, A4 h s, A5 h s, bs, rc_ok tx, e1, A1 h1 s1, A2 h1 s1, A3 h1 s1, A4 h1 s1, A5 h1 s1, rc_ok t1, e2, if_true, jend]
  rw [if_neg c20]
  by_cases c21 : J w0 &&& (31 : Int32) = (21 : Int32)
  · rw [if_pos c21]
    obtain ⟨v, h2, e1, e2, I2⟩ := I.qy M (M.count R1.1 R1.2)
    refine ⟨h2, I2, ?_⟩
    simp only [A1 h s, bs, rc_ok tx, rc_ok tr, e1, e2, if_true, jend]
  rw [if_neg c21]
  by_cases c22 : J w0 &&& (31 : Int32) = (22 : Int32)
  · rw [if_pos c22]
    obtain ⟨v, h1, h2, e1, e2, I2, t1, s1⟩ := I.img R1.1 R1.2
    refine ⟨h2, I2, ?_⟩
    simp only [A1 h s, bs, rc_ok tx, e1, A1 h1 s1, rc_ok t1, e2, if_true, jend]
  rw [if_neg c22]
  by_cases c23 : J w0 &&& (31 : Int32) = (23 : Int32)
  · rw [if_pos c23]
    obtain ⟨v, h1, h2, e1, e2, I2, t1, s1⟩ := I.agn R1.1 R1.2
    refine ⟨h2, I2, ?_⟩
    simp only [A1 h s, bs, rc_ok tx, e1, A1 h1 s1, rc_ok t1, e2, if_true, jend]
  rw [if_neg c23]
  exact ⟨h, I, jend⟩
end LAW
