/-! PURE PART: what is copied, the class -/
theorem cpI_ok {h : Hp} {t a b k : Nat} (ta : hTag h a = t) (tb : hTag h b = t) (la : k ≤ hLen h a) (lb : k ≤ hLen h b) (la9 : hLen h a < 100000) (lb9 : hLen h b < 100000) : ∃ g, cpI h t a b (0 : Int32) (0 : Int32) (J k) = some g ∧ FR (fun b' _ => b' = b) h g ∧ ∀ i, i < k → hI g b i = hI h a i := by
  have hc : cpB 0 0 (J k) (hLen h a) (hLen h b) = true := by
    unfold cpB
    rw [J_toInt (by omega) (by omega)]
    simp
    omega
  refine ⟨setIA h b (va_cpy (hI h a) (hI h b) 0 0 k), ?_, ⟨rfl, rfl, rfl, fun b' k' n => ⟨?_, rfl⟩⟩, fun i hi => ?_⟩
  · unfold cpI
    rw [if_pos ⟨ta, tb, hc⟩, J_nat (by omega) (by omega)]
    rfl
  · rw [hI_setIA, up1_ne n]
  · rw [hI_setIA, up1_eq]
    unfold va_cpy
    rw [if_pos (by omega)]
    congr 1
    omega
theorem cpJ_ok {h : Hp} {a b k : Nat} (ta : hTag h a = 22) (tb : hTag h b = 22) (la : k ≤ hLen h a) (lb : k ≤ hLen h b) (la9 : hLen h a < 100000) (lb9 : hLen h b < 100000) : ∃ g, cpJ h a b (0 : Int32) (0 : Int32) (J k) = some g ∧ FR (fun b' _ => b' = b) h g ∧ ∀ i, i < k → hJ g b i = hJ h a i := by
  have hc : cpB 0 0 (J k) (hLen h a) (hLen h b) = true := by
    unfold cpB
    rw [J_toInt (by omega) (by omega)]
    simp
    omega
  refine ⟨setJA h b (va_cpy (hJ h a) (hJ h b) 0 0 k), ?_, ⟨rfl, rfl, rfl, fun b' k' n => ⟨rfl, ?_⟩⟩, fun i hi => ?_⟩
  · unfold cpJ
    rw [if_pos ⟨ta, tb, hc⟩, J_nat (by omega) (by omega)]
    rfl
  · rw [hJ_setJA, up1_ne n]
  · rw [hJ_setJA, up1_eq]
    unfold va_cpy
    rw [if_pos (by omega)]
    congr 1
    omega
theorem X5_copy_ok {h : Hp} {a b n : Nat} (A : TI (top h) a n) (B : TI (top h) b n) (hn : n < 100000) : ∃ g, m_X5_copy a b h = some g ∧ FR (fun b' _ => b' = b) h g ∧ ∀ i, i < n → hI g b i = hI h a i := by
  have e1 : hLen h a = n := A.2
  have e2 : hLen h b = n := B.2
  obtain ⟨g, c1, c2, c3⟩ := cpI_ok (h := h) (t := 20) (a := a) (b := b) (k := n) A.1 B.1 (by omega) (by omega) (by omega) (by omega)
  refine ⟨g, ?_, c2, c3⟩
  unfold m_X5_copy
  rw [alen_ok A hn, bs, alen_ok B hn, bs, J9_min_ok (by omega) (by omega) (by omega) (by omega), bs, show min (n : Int) n = n by omega, c1, bs]
/-- of c's fields and rows copied to d, so far -/
def CpI (h g : Hp) (c d w nf : Nat) (nn : Nat → Nat) (j : Nat) : Prop := FR (fun b _ => d ≤ b ∧ b ≤ d + w) h g ∧ (∀ k, k < nf → hI g d k = hI h c k) ∧ ∀ i, 1 ≤ i → i ≤ j → ∀ k, k < nn i → hI g (d + i) k = hI h (c + i) k
section CPY
variable {h g : Hp} {c d w nf j : Nat} {nn : Nat → Nat}
theorem CpI.start : CpI h h c d w 0 nn 0 := ⟨FR.refl _ _, fun k hk => absurd hk (by omega), fun i i0 i1 => absurd i1 (by omega)⟩
theorem CpI.field (I : CpI h g c d w nf nn 0) (dj : c + w < d ∨ d + w < c) {t : Nat} (tc : hTag h c = t) (td : hTag h d = t) : ∃ v g', gfI g c t nf = some v ∧ pfI g d t nf v = some g' ∧ CpI h g' c d w (nf + 1) nn 0 := by
  obtain ⟨F, f1, f2⟩ := I
  have G : FR (fun b _ => d ≤ b ∧ b ≤ d + w) g (wE g d nf (hE g c nf)) := FR.wE (A := fun b _ => d ≤ b ∧ b ≤ d + w) ⟨by omega, by omega⟩
  refine ⟨J (hE g c nf), wE g d nf (hE g c nf), gfI_ok (by rw [F.tag]; exact tc), pfI_ok (by rw [F.tag]; exact td), F.trans G, fun k hk => ?_, fun i i0 i1 => absurd i1 (by omega)⟩
  show up2 (hI g) d ((nf : Int)).toNat (J (hE g c nf)) d k = _
  unfold up2
  rw [if_pos rfl, Int.toNat_natCast]
  by_cases q : k = nf
  · rw [if_pos q, q, ← hE_J, Int.toNat_natCast]
    exact (F.2.2.2 c nf (by omega)).1
  · rw [if_neg q]
    exact f1 k (by omega)
theorem CpI.row (I : CpI h g c d w nf nn j) (dj : c + w < d ∨ d + w < c) (jw : j + 1 ≤ w) (tc : TI (top h) (c + (j + 1)) (nn (j + 1))) (td : TI (top h) (d + (j + 1)) (nn (j + 1))) (n9 : nn (j + 1) < 100000) : ∃ g', m_X5_copy (c + (j + 1)) (d + (j + 1)) g = some g' ∧ CpI h g' c d w nf nn (j + 1) := by
  obtain ⟨F, f1, f2⟩ := I
  obtain ⟨g', e, G, z⟩ := X5_copy_ok (h := g) (a := c + (j + 1)) (b := d + (j + 1)) (n := nn (j + 1)) (by rw [F.1]; exact tc) (by rw [F.1]; exact td) n9
  refine ⟨g', e, F.trans (G.mono (fun b k q => by omega)), fun k hk => ?_, fun i i0 i1 k hk => ?_⟩
  · rw [(G.2.2.2 d k (by omega)).1, f1 k hk]
  · by_cases q : i = j + 1
    · subst q
      rw [z k hk]
      exact (F.2.2.2 (c + (j + 1)) k (by omega)).1
    · rw [(G.2.2.2 (d + i) k (by omega)).1, f2 i i0 (by omega) k hk]
theorem CpI.e (I : CpI h g c d w nf nn j) {i : Nat} {k : Int} (i0 : 1 ≤ i) (i1 : i ≤ j) (k1 : k.toNat < nn i) : hE g (d + i) k = hE h (c + i) k := by
  unfold hE
  rw [I.2.2 i i0 i1 k.toNat k1]
theorem CpI.f (I : CpI h g c d w nf nn j) {k : Int} (k1 : k.toNat < nf) : hE g d k = hE h c k := by
  unfold hE
  rw [I.2.1 k.toNat k1]
def nnA (i : Nat) : Nat := if i = 1 then 4 else if i = 2 then 40 else if i = 3 then 40 else if i = 4 then 800 else 340
def nnQ (i : Nat) : Nat := if i = 1 then 8 else if i = 2 then 16 else if i = 3 then 8 else 32
def nnU (_ : Nat) : Nat := 24
theorem X3_copyFrom_ok (C : TU (top h) c) (D : TU (top h) d) (dj : c + 1 < d ∨ d + 1 < c) : ∃ g, m_X3_copyFrom d c h = some g ∧ CpI h g c d 1 1 nnU 1 := by
  obtain ⟨v, g1, e1, e2, I1⟩ := (CpI.start (h := h) (c := c) (d := d) (w := 1) (nn := nnU)).field dj C.1 D.1
  have T1 := I1.1.1
  obtain ⟨g2, e3, I2⟩ := I1.row dj (by omega) C.2.2 D.2.2 (by decide)
  have r1 : gfR g1 c 4 1 = some (c + 1) := gfR_ok (by rw [I1.1.tag]; exact C.1) (by show (top g1).2.2 c 1 = c + 1; rw [T1]; exact C.2.1)
  have r2 : gfR g1 d 4 1 = some (d + 1) := gfR_ok (by rw [I1.1.tag]; exact D.1) (by show (top g1).2.2 d 1 = d + 1; rw [T1]; exact D.2.1)
  refine ⟨g2, ?_, I2⟩
  unfold m_X3_copyFrom
  rw [e1, bs, e2, bs, r1, bs, r2, bs, e3, bs]
theorem X6_copyFrom_ok (C : TQ (top h) c) (D : TQ (top h) d) (dj : c + 4 < d ∨ d + 4 < c) : ∃ g, m_X6_copyFrom d c h = some g ∧ CpI h g c d 4 1 nnQ 4 := by
  have rr : ∀ {g' : Hp} {a k b : Nat}, top g' = top h → (top h).1 a = 6 → (top h).2.2 a k = b → gfR g' a 6 k = some b := fun t q1 q2 => gfR_ok (by show (top _).1 _ = _; rw [t]; exact q1) (by show (top _).2.2 _ _ = _; rw [t]; exact q2)
  obtain ⟨C0, ⟨C1, C1'⟩, ⟨C2, C2'⟩, ⟨C3, C3'⟩, C4, C4'⟩ := C
  obtain ⟨D0, ⟨D1, D1'⟩, ⟨D2, D2'⟩, ⟨D3, D3'⟩, D4, D4'⟩ := D
  obtain ⟨v, g1, e1, e2, I1⟩ := (CpI.start (h := h) (c := c) (d := d) (w := 4) (nn := nnQ)).field dj C0 D0
  obtain ⟨g2, e3, I2⟩ := I1.row dj (by omega) C1' D1' (by decide)
  obtain ⟨g3, e4, I3⟩ := I2.row dj (by omega) C2' D2' (by decide)
  obtain ⟨g4, e5, I4⟩ := I3.row dj (by omega) C3' D3' (by decide)
  obtain ⟨g5, e6, I5⟩ := I4.row dj (by omega) C4' D4' (by decide)
  refine ⟨g5, ?_, I5⟩
  unfold m_X6_copyFrom
  rw [e1, bs, e2, bs, rr I1.1.1 C0 C1, bs, rr I1.1.1 D0 D1, bs, e3, bs, rr I2.1.1 C0 C2, bs, rr I2.1.1 D0 D2, bs, e4, bs, rr I3.1.1 C0 C3, bs, rr I3.1.1 D0 D3, bs, e5, bs, rr I4.1.1 C0 C4, bs, rr I4.1.1 D0 D4, bs, e6, bs]
theorem X0_copyFrom_ok (C : TA (top h) c) (D : TA (top h) d) (dj : c + 9 < d ∨ d + 9 < c) : ∃ g, m_X0_copyFrom d c h = some g ∧ CpI h g c d 9 3 nnA 8 ∧ ∀ k, k < 340 → hJ g (d + 9) k = hJ h (c + 9) k := by
  have rr : ∀ {g' : Hp} {a k b : Nat}, top g' = top h → (top h).1 a = 1 → (top h).2.2 a k = b → gfR g' a 1 k = some b := fun t q1 q2 => gfR_ok (by show (top _).1 _ = _; rw [t]; exact q1) (by show (top _).2.2 _ _ = _; rw [t]; exact q2)
  obtain ⟨C0, ⟨C1, C1'⟩, ⟨C2, C2'⟩, ⟨C3, C3'⟩, ⟨C4, C4'⟩, ⟨C5, C5'⟩, ⟨C6, C6'⟩, ⟨C7, C7'⟩, ⟨C8, C8'⟩, C9, C9'⟩ := C
  obtain ⟨D0, ⟨D1, D1'⟩, ⟨D2, D2'⟩, ⟨D3, D3'⟩, ⟨D4, D4'⟩, ⟨D5, D5'⟩, ⟨D6, D6'⟩, ⟨D7, D7'⟩, ⟨D8, D8'⟩, D9, D9'⟩ := D
  obtain ⟨v, g1, e1, e1', I1⟩ := (CpI.start (h := h) (c := c) (d := d) (w := 9) (nn := nnA)).field dj C0 D0
  obtain ⟨v2, g2, e2, e2', I2⟩ := I1.field dj C0 D0
  obtain ⟨v3, g3, e3, e3', I3⟩ := I2.field dj C0 D0
  obtain ⟨k1, d1, K1⟩ := I3.row dj (by omega) C1' D1' (by decide)
  obtain ⟨k2, d2, K2⟩ := K1.row dj (by omega) C2' D2' (by decide)
  obtain ⟨k3, d3, K3⟩ := K2.row dj (by omega) C3' D3' (by decide)
  obtain ⟨k4, d4, K4⟩ := K3.row dj (by omega) C4' D4' (by decide)
  obtain ⟨k5, d5, K5⟩ := K4.row dj (by omega) C5' D5' (by decide)
  obtain ⟨k6, d6, K6⟩ := K5.row dj (by omega) C6' D6' (by decide)
  obtain ⟨k7, d7, K7⟩ := K6.row dj (by omega) C7' D7' (by decide)
  obtain ⟨k8, d8, K8⟩ := K7.row dj (by omega) C8' D8' (by decide)
  have T8 := K8.1.1
  have tc : hTag k8 (c + 9) = 22 := by rw [K8.1.tag]; exact C9'.1
  have td : hTag k8 (d + 9) = 22 := by rw [K8.1.tag]; exact D9'.1
  have lc : hLen k8 (c + 9) = 340 := by show (top k8).2.1 _ = _; rw [T8]; exact C9'.2
  have ld : hLen k8 (d + 9) = 340 := by show (top k8).2.1 _ = _; rw [T8]; exact D9'.2
  have ac : alen k8 (c + 9) 22 = some (J 340) := by
    unfold alen
    rw [if_pos tc, lc]
    rfl
  have ad : alen k8 (d + 9) 22 = some (J 340) := by
    unfold alen
    rw [if_pos td, ld]
    rfl
  obtain ⟨k9, d9, G, z⟩ := cpJ_ok (h := k8) (a := c + 9) (b := d + 9) (k := 340) tc td (by omega) (by omega) (by omega) (by omega)
  have mn : m_J9_min_7cf53 (J 340) (J 340) k8 = some (J 340) := J9_min_ok (by omega) (by omega) (by omega) (by omega)
  have d9' : cpJ k8 (c + 9) (d + 9) (0 : Int32) (0 : Int32) (J 340) = some k9 := d9
  refine ⟨k9, ?_, ⟨K8.1.trans (G.mono (fun b k q => by omega)), fun k hk => ?_, fun i i0 i1 k hk => ?_⟩, fun k hk => ?_⟩
  · unfold m_X0_copyFrom
    rw [e1, bs, e1', bs, e2, bs, e2', bs, e3, bs, e3', bs, rr I3.1.1 C0 C1, bs, rr I3.1.1 D0 D1, bs, d1, bs, rr K1.1.1 C0 C2, bs, rr K1.1.1 D0 D2, bs, d2, bs, rr K2.1.1 C0 C3, bs, rr K2.1.1 D0 D3, bs, d3, bs, rr K3.1.1 C0 C4, bs, rr K3.1.1 D0 D4, bs, d4, bs, rr K4.1.1 C0 C5, bs, rr K4.1.1 D0 D5, bs, d5, bs, rr K5.1.1 C0 C6, bs, rr K5.1.1 D0 D6, bs, d6, bs, rr K6.1.1 C0 C7, bs, rr K6.1.1 D0 D7, bs, d7, bs, rr K7.1.1 C0 C8, bs, rr K7.1.1 D0 D8, bs, d8, bs, rr T8 C0 C9, bs, rr T8 D0 D9, bs, bs, ac, bs, bs, ad, bs, mn, bs, d9', bs]
  · rw [(G.2.2.2 d k (by omega)).1, K8.2.1 k hk]
  · rw [(G.2.2.2 (d + i) k (by omega)).1, K8.2.2 i i0 i1 k hk]
  · rw [z k hk]
    exact (K8.1.2.2.2 (c + 9) k (by omega)).2
/-- a copied archive shows the same -/
theorem CA.copied {T : Int → Int} (I : CpI h g c d 9 3 nnA 8) (z : ∀ k, k < 340 → hJ g (d + 9) k = hJ h (c + 9) k) (TD : TA (top h) d) (C : CA h c T) (D : DA h c T) (W : CW h c T) : CA g d T ∧ DA g d T ∧ CW g d T := by
  obtain ⟨c1, c2, c3, c4, c5, c6, c7, c8⟩ := C
  have nt := c2.n5
  have n0 := c2.n0
  refine ⟨⟨by rw [I.1.1]; exact TD, c2, ?_, ?_, fun e e0 e1 => ?_, fun e v hv => ?_, fun e v q hq => ?_, fun t t0 t1 => ⟨?_, ?_, ?_⟩⟩, ⟨D.1, fun e v hv => ?_⟩, ?_, fun i i0 i1 => ⟨?_, ?_⟩⟩
  · rw [I.f (by decide), c3]
  · rw [I.f (by decide), c4]
  · rw [I.e (by omega) (by omega) (by show Int.toNat _ < 4; omega), c5 e e0 e1]
  · rw [I.e (by omega) (by omega) (by show Int.toNat _ < 40; have := c2.vb hv; omega), c6 e v hv]
  · rw [I.e (by omega) (by omega) (by show Int.toNat _ < 800; have := c2.vb hq.1; have := c2.ln hq.1; have := hq.2; omega), c7 e v q hq]
  · rw [I.e (by omega) (by omega) (by show Int.toNat _ < 340; omega), (c8 t t0 t1).1]
  · rw [I.e (by omega) (by omega) (by show Int.toNat _ < 340; omega), (c8 t t0 t1).2.1]
  · rw [I.e (by omega) (by omega) (by show Int.toNat _ < 340; omega), (c8 t t0 t1).2.2]
  · rw [I.e (by omega) (by omega) (by show Int.toNat _ < 40; have := c2.vb hv; omega), D.2 e v hv]
  · rw [I.f (by decide), W.1]
  · rw [I.e (by omega) (by omega) (by show Int.toNat _ < 340; have : 0 ≤ wcN T (T 5).toNat ∧ wcN T (T 5).toNat ≤ 319 := wc_rg c2; omega), (W.2 i i0 i1).1]
  · unfold hL
    rw [z i.toNat (by have : 0 ≤ wcN T (T 5).toNat ∧ wcN T (T 5).toNat ≤ 319 := wc_rg c2; omega)]
    exact (W.2 i i0 i1).2
theorem QA.copied {Q : Int → Int} (I : CpI h g c d 4 1 nnQ 4) (TD : TQ (top h) d) (C : QA h c Q) : QA g d Q := by
  obtain ⟨c1, c2, c3, c4⟩ := C
  refine ⟨by rw [I.1.1]; exact TD, c2, by rw [I.f (by decide), c3], fun k k0 k1 => ?_⟩
  have k8 : k < 8 := by
    have := c2.1
    omega
  obtain ⟨d1, d2, d3, d4, d5⟩ := c4 k k0 k1
  have cn := c2.cnt k0 k1
  refine ⟨?_, ?_, ?_, ?_, fun i i0 i1 => ?_⟩
  · rw [I.e (by omega) (by omega) (by show Int.toNat _ < 8; omega), d1]
  · rw [I.e (by omega) (by omega) (by show Int.toNat _ < 16; omega), d2]
  · rw [I.e (by omega) (by omega) (by show Int.toNat _ < 16; omega), d3]
  · rw [I.e (by omega) (by omega) (by show Int.toNat _ < 8; omega), d4]
  · rw [I.e (by omega) (by omega) (by show Int.toNat _ < 32; omega), d5 i i0 i1]
theorem HA.copied {U : Int → Int} (I : CpI h g c d 1 1 nnU 1) (TD : TU (top h) d) (C : HA h c U) : HA g d U := by
  obtain ⟨c1, c2, c3, c4⟩ := C
  refine ⟨by rw [I.1.1]; exact TD, c2, by rw [I.f (by decide), c3], fun i i0 i1 => ?_⟩
  rw [I.e (by omega) (by omega) (by show Int.toNat _ < 24; have := c2.1; omega), c4 i i0 i1]
end CPY
