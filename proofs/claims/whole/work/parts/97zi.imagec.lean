/-! PURE PART: an image copied, the class -/
section IMC
variable {h : Hp} {c d : Nat} {S : Sx} {B : Int → Int} {L : Int}
theorem X10_copy_ok (D : TT (top h) d) (dj : c + 1 < d ∨ d + 1 < c) (K : CT h c B L) : ∃ g, m_X10_copyFrom d c h = some g ∧ FR (fun b _ => b = d ∨ b = d + 1) h g ∧ CT g d B L := by
  have C := K.1
  have rc0 : gfR h c 10 0 = some (c + 1) := gfR_ok C.1 C.2.1
  have rd0 : gfR h d 10 0 = some (d + 1) := gfR_ok D.1 D.2.1
  have lc : alen h (c + 1) 21 = some (J 600) := blen_ok (n := 600) C.2.2 (by decide)
  have ld : alen h (d + 1) 21 = some (J 600) := blen_ok (n := 600) D.2.2 (by decide)
  have mn : m_J9_min_7cf53 (J 600) (J 600) h = some (J 600) := J9_min_ok (by omega) (by omega) (by omega) (by omega)
  have hc : hLen h (c + 1) = 600 := C.2.2.2
  have hd : hLen h (d + 1) = 600 := D.2.2.2
  obtain ⟨g1, e1, F1, z1⟩ := cpI_ok (h := h) (t := 21) (a := c + 1) (b := d + 1) (k := 600) C.2.2.1 D.2.2.1 (by omega) (by omega) (by omega) (by omega)
  have e1' : cpI h 21 (c + 1) (d + 1) (0 : Int32) (0 : Int32) (J 600) = some g1 := e1
  have f1 : gfI g1 c 10 1 = some (J L) := by
    rw [gfI_ok (by rw [F1.tag]; exact C.1)]
    exact congrArg (fun z => some (J z)) ((F1.e (by omega)).trans K.2.2.1)
  have p1 : pfI g1 d 10 1 (J L) = some (wE g1 d 1 L) := pfI_ok (k := 1) (by rw [F1.tag]; exact D.1)
  have F2 : FR (fun b _ => b = d ∨ b = d + 1) g1 (wE g1 d 1 L) := FR.wE (A := fun b _ => b = d ∨ b = d + 1) (Or.inl rfl)
  have FF := (F1.mono (fun b k q => Or.inr q)).trans F2
  have hL := K.2.1
  have h0 := hL.1
  have h1 := hL.2.1
  refine ⟨wE g1 d 1 L, ?_, FF, by rw [FF.1]; exact D, hL, ?_, fun k k0 k1 => ?_⟩
  · unfold m_X10_copyFrom
    rw [rc0, bs, rd0, bs, bs, lc, bs, bs, ld, bs, mn, bs, e1', bs, f1, bs, p1, bs]
  · rw [hE_wE (by omega) (by omega) (by omega) (by omega), if_pos ⟨rfl, rfl⟩]
  · rw [hE_wE_ne (by omega), ← K.2.2.2 k k0 k1]
    unfold hE
    rw [z1 k.toNat (by omega)]
end IMC
