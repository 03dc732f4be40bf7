/-! PURE PART: the law's run, from its start to its end -/
def S00 : Sx := (fun _ => 0, 0, 0, -1, fun _ => 0, fun _ _ => 0, fun _ _ => 0, fun _ _ => 0)
section BEG
variable {h g : Hp} {x o L : Nat} {xs : Nat → Int32}
theorem S00_W : SW S00 := ⟨⟨Int.le_refl 0, by decide, fun k _ _ => ⟨by show (-128 : Int) ≤ 0; decide, by show (0 : Int) ≤ 127; decide⟩⟩, ⟨by decide, by decide, by decide, by decide⟩, fun k _ _ => ⟨by show (0 : Int) ≤ 0; decide, by show (0 : Int) ≤ 2; decide⟩, fun i i0 i1 => ⟨fun q => absurd q (by show ¬ i < 0; omega), fun q => absurd q (by show ¬ i < 0; omega), fun q => absurd q (by show ¬ i < 0; omega)⟩⟩
theorem hE_0 {b : Nat} {i : Int} (e : hI h b i.toNat = 0) : hE h b i = 0 := by
  unfold hE
  rw [e]
  rfl
/-- the class shows the empty state -/
theorem CS_00 {c : Nat} (T : TS9 (top h) c) (z1 : hI h (c + 1) 1 = 0) (z2 : ∀ k, hI h (c + 2) k = 0) (z3 : ∀ k, hI h (c + 3) k = 0) (z4 : hI h c 1 = 0) (z5 : hI h c 2 = -1) : CS h c S00 := by
  refine ⟨T, ⟨T.2.1.2, S00_W.1, hE_0 z1, fun k k0 k1 => hE_0 (z2 _)⟩, hE_0 z4, ?_, fun k k0 k1 => hE_0 (z3 _), fun i hi => ⟨fun q => absurd q ?_, fun q => absurd q ?_, fun q => absurd q ?_⟩⟩
  · unfold hE
    rw [show ((2 : Int)).toNat = 2 from rfl, z5]
    rfl
  · show ¬ (i : Int) < 0
    omega
  · show ¬ (i : Int) < 0
    omega
  · show ¬ (i : Int) < 0
    omega
theorem RS_00 (T : TR (top h) o) (z1 : ∀ k, hI h (o + 1) k = 0) (z2 : ∀ k, hI h (o + 2) k = 0) (z3 : ∀ k, hI h (o + 3) k = 0) (z4 : hI h (o + 4) 0 = -1) (z5 : ∀ k, hI h (o + 5) k = 0) : RS h o 0 S00 := by
  refine ⟨T, fun k k0 k1 => hE_0 (z1 _), hE_0 (z2 _), hE_0 (z3 _), ?_, fun k k0 k1 => hE_0 (z5 _), fun i i0 i1 q => absurd q ?_, fun i i0 i1 q => absurd q ?_, fun i i0 i1 q => absurd q ?_⟩
  · unfold hE
    rw [show ((0 : Int)).toNat = 0 from rfl, z4]
    rfl
  · show ¬ i < 0
    omega
  · show ¬ i < 0
    omega
  · show ¬ i < 0
    omega
/-- both objects made: what holds between calls holds -/
theorem begin_INV (L : Nat) (xs : Nat → Int32) : ∃ g, (∀ {R : Type} (K : Nat → Nat → Hp → Option R), ((nw (hp0 L xs) 11 6).bind fun hh1 => (rc hh1 (hTop (hp0 L xs)) 11 (m_X11_init (hTop (hp0 L xs)) hh1)).bind fun x1 => (nw x1 12 37).bind fun hh2 => (rc hh2 (hTop x1) 12 (m_X12_init (hTop x1) hh2)).bind fun x2 => K (hTop (hp0 L xs)) (hTop x1) x2) = K 2 84 g) ∧ INV g 2 84 L xs := by
  have tp : hTop (hp0 L xs) = 2 := rfl
  have us : hUsed (hp0 L xs) = 0 := rfl
  have l1 : hLen (hp0 L xs) 1 = L := by
    show (if (1 : Nat) = 1 then L else 0) = L
    exact if_pos rfl
  have i1 : hI (hp0 L xs) 1 = xs := by
    show (if (1 : Nat) = 1 then xs else fun _ => 0) = xs
    exact if_pos rfl
  generalize hp0 L xs = h0 at *
  have e1 : nw h0 11 6 = some (alloc h0 11 6) := if_pos (by omega)
  have t1 : hTag (alloc h0 11 6) 2 = 11 := by rw [hTag_alloc, tp, up1_eq]
  have p1 : hTop (alloc h0 11 6) = 2 + 1 := by rw [hTop_alloc, tp]
  obtain ⟨g1, e2, G1, u1, v1, X1, T1, n0, z1, z2, z3, z4, z5⟩ := X11_init_ok (a := 2) t1 p1 (by omega)
  have v1' : hUsed g1 = 11421 := by rw [v1, hUsed_alloc, us]
  have u1' : hTop g1 = 84 := u1
  have GA : GWH (fun b _ => b = 2) (fun b _ => b = 2) h0 g1 := GWH.alloc.trans G1
  have e3 : nw g1 12 37 = some (alloc g1 12 37) := if_pos (by omega)
  have t2 : hTag (alloc g1 12 37) 84 = 12 := by rw [hTag_alloc, u1', up1_eq]
  have p2 : hTop (alloc g1 12 37) = 84 + 1 := by rw [hTop_alloc, u1']
  obtain ⟨g2, e4, G2, u2, v2, T2, y1, y2, y3, y4, y5, y6⟩ := X12_init_ok (a := 84) t2 p2 (by omega)
  have v2' : hUsed g2 = 29412 := by rw [v2, hUsed_alloc, v1']
  have u2' : hTop g2 = 101 := u2
  have GB : GWH no2 no2 g1 g2 := ((GWH.alloc (t := 12) (n := 37)).trans G2).mono (fun b k hb q => by omega) (fun b k hb q => by omega)
  have EB : ∀ b, b ≤ 83 → (top g2).1 b = (top g1).1 b ∧ (top g2).2.1 b = (top g1).2.1 b ∧ (top g2).2.2 b = (top g1).2.2 b := fun b hb => GB.E (by omega) (fun k q => q)
  have IB : ∀ b k, b ≤ 83 → hI g2 b k = hI g1 b k := fun b k hb => GB.i (by omega) (fun q => q)
  have X2 : TX (top g2) 2 := X1.loc (fun b q r => have E := EB b r; ⟨E.1, E.2.1, fun _ => E.2.2⟩)
  have T1' : TS9 (top g2) 3 := T1.loc (fun b q r => EB b (by omega))
  have C : CS g2 3 S00 := CS_00 T1' (by rw [IB _ _ (by omega)]; exact z1) (fun k => by rw [IB _ _ (by omega)]; exact z2 k) (fun k => by rw [IB _ _ (by omega)]; exact z3 k) (by rw [IB _ _ (by omega)]; exact z4) (by rw [IB _ _ (by omega)]; exact z5)
  have R : RS g2 84 0 S00 := RS_00 T2 y1 y2 y3 y4 y5
  have nz : ∀ k, hR g2 44 k = 0 := fun k => (congrFun (EB 44 (by omega)).2.2 k).trans (n0 k)
  have fr : ∀ k, frn (hR g2 (2 + 42) k) = 1 := fun k => by
    show frn (hR g2 44 k) = 1
    rw [nz]
    rfl
  refine ⟨g2, fun {R} K => ?_, ⟨S00, X2, C, R, S00_W, by omega, by omega⟩, ⟨⟨?_, ?_⟩, ?_, ?_, by omega, by omega, by omega⟩, fun j hj => Or.inl ⟨nz _, hE_0 (y6 _)⟩, fun i j _ _ _ q => absurd (nz i) q⟩
  · rw [tp, e1, bs, rc_ok t1, e2, bs, e3, bs, u1', rc_ok t2, e4, bs]
  · rw [GB.len (by omega), GA.len (by omega), l1]
  · rw [← i1]
    funext k
    rw [GB.i (by omega) (fun q => q), GA.i (by omega) (by omega)]
  · rw [fr, fr, fr]
    omega
  · rw [fr, fr, fr]
    omega
/-- the law's loop runs to its end -/
theorem law_loop (I : INV h x o L xs) (hL : L ≤ 3584) : ∃ g, l_L_law_18 x o (0 : Int32) h = some (J 1, g) ∧ INV g x o L xs := by
  obtain ⟨st, ⟨g, rfl, I2⟩, el⟩ := loop_ex (body := fun (k : Int32 × Hp → Option (Int32 × Hp)) (s : Int32 × Hp) => b_L_law_18 x o (fun v3q hq => k (v3q, hq)) s.1 s.2) (s := (J 0, h)) (fun i st => ∃ g, st = (J (7 * i), g) ∧ INV g x o L xs) (fun st => some (J 1, st.2)) ((L / 7 : Nat) : Int) (by omega) (by omega) ⟨h, rfl, I⟩ (by
    rintro k i st i0 i1 ⟨g, rfl, I2⟩
    obtain ⟨g', I3, e⟩ := law_step I2 hL (a := 7 * i) (by omega) (by omega) (fun v3q hq => k (v3q, hq))
    refine ⟨(J (7 * (i + 1)), g'), ⟨g', rfl, I3⟩, ?_⟩
    rw [show 7 * (i + 1) = 7 * i + 7 by omega]
    exact e) (by
    rintro k st ⟨g, rfl, I2⟩
    have s : Scr g L xs := I2.2.1.1
    have lc : ((Int32.ofNat (hLen g 1)) - (7 : Int32)) < J (7 * ((L / 7 : Nat) : Int)) := by
      rw [s.1, show Int32.ofNat L = J (L : Int) from rfl, show (7 : Int32) = J 7 from rfl, J_sub, J_lt (by omega) (by omega) (by omega) (by omega)]
      omega
    show b_L_law_18 x o (fun v3q hq => k (v3q, hq)) (J (7 * ((L / 7 : Nat) : Int))) g = _
    unfold b_L_law_18
    rw [if_pos lc]
    rfl)
  exact ⟨g, el, I2⟩
theorem law_all (L : Nat) (xs : Nat → Int32) (hL : L ≤ 3584) : ∃ hF : Hp, Ev M_L_law [aA 1] (hp0 L xs) (some (aI 1), hF) ∧ hTop hF ≤ 3000 ∧ hUsed hF ≤ 400000 := by
  obtain ⟨g, e, I⟩ := begin_INV L xs
  obtain ⟨g2, e2, I2⟩ := law_loop I hL
  have em : m_L_law (hp0 L xs) = some (J 1, g2) := by
    unfold m_L_law
    exact (e (fun a b h => l_L_law_18 a b (0 : Int32) h)).trans e2
  have ev := ok_L_law em
  have r := I2.2.1
  refine ⟨g2, ev, ?_, ?_⟩
  · have := r.2.1
    omega
  · have := r.2.2.1
    omega
end BEG
