/-! PURE PART: texts of the three sorts, both sides -/
def nlN (B : Int → Int) (L s : Int) : Nat := (nlF B L s).toNat
section BT
variable {h : Hp} {o r a : Nat} {B : Int → Int} {L : Int}
theorem EB_up {f le e : Int} (x : EB f le e) (l6 : le ≤ 600) : e ≤ 9999 ∧ (e = 9999 ∨ 8 * f ≤ e) := by
  unfold EB at x
  omega
/-- the reference reads an archive -/
theorem RP.readA (H : RP h o B L) : ∃ h', m_X12_readText o (J 0) h = some (J (b01 (decide (feT B L 0 (tyA B L (nlN B L 0)).1 = 9999))), h') ∧ FR (Art o) h h' ∧ (∃ z p, hE h' (o + 3) 0 = z ∧ hE h' (o + 4) 0 = p ∧ DCD z p (feT B L 0 (tyA B L (nlN B L 0)).1)) ∧ (feT B L 0 (tyA B L (nlN B L 0)).1 = 9999 → RT h' o (tyA B L (nlN B L 0)).2) := by
  have hL := H.2.1
  obtain ⟨n0, n1, n2, n3⟩ := nl_spec (B := B) (s := 0) hL.1 hL.2.1
  have inv := InvA_all (B := B) hL.1 hL.2.1
  have tb := TyB_all (el := elA B L) (stp := fun T f k n => stpA B L T f k n) (B := B) (s := 0) hL.1 hL.2.1 (fun n hn c => by
    have r := ls_rg (B := B) (s := 0) hL.1 hL.2.1 n
    have lw := lo_2 (n2 (n : Int) (by omega) hn) r.1 r.2 hL.2.1
    exact EB_A lw.1 (inv n (by omega)).1 lw.2.2.1)
  refine X12_readText_ok (el := elA B L) (stp := fun T f k n => stpA B L T f k n) (fun g _ T => RT g o T) (fun A g g' E T D F n => ⟨by rw [F.1]; exact D.1, D.2.1, fun j j0 j1 => by rw [F.e (n _), D.2.2 j j0 j1]⟩) H (by omega) (by omega) (fun g tr z => ⟨tr, AW_0, fun j j0 j1 => z j j0 j1⟩) (fun g n hn fl Hg Kg Eg Dg h22 h21 h23 => ?_)
  obtain ⟨i1, i2, i3, i4⟩ := inv n hn
  have r := ls_rg (B := B) (s := 0) hL.1 hL.2.1 n
  have tbn := tb n hn
  obtain ⟨x, g', e1, R⟩ := RK.archiveLine (dt := (n : Int)) Kg Hg Dg Eg h22 h21 h23 r.1 fl (fun k W hk n20 => by
    have := hL.2.1
    have i3' : 11 * (tyA B L n).2 5 ≤ 5 * lsN B L 0 n := i3
    show (tyA B L n).2 5 + _ ≤ 319
    omega)
  refine ⟨x, g', ?_, R.map (fun k0 k1 mi D => ?_)⟩
  · unfold lnFn
    rw [if_pos rfl]
    exact e1
  · have W : LnW B L (lsN B L 0 n) (liK B L 0 (lsN B L 0 n)) := ⟨⟨r.1, r.2, hL.2.1⟩, ⟨k0, k1⟩, mi⟩
    have eb := EB_up (EB_A W i1 rfl) (EB_le W rfl).2
    by_cases c : (tyA B L n).1 = 9999
    · have e2 : tyA B L (n + 1) = (elA B L (tyA B L n).2 (lsN B L 0 n) (liK B L 0 (lsN B L 0 n)), if elA B L (tyA B L n).2 (lsN B L 0 n) (liK B L 0 (lsN B L 0 n)) = 9999 then stpA B L (tyA B L n).2 (lsN B L 0 n) (liK B L 0 (lsN B L 0 n)) n else (tyA B L n).2) := ty_1 (el := elA B L) (stp := fun T f k n => stpA B L T f k n) (s := 0) c
      show ENr g' o (tyA B L (n + 1)).1 ∧ RT g' o (tyA B L (n + 1)).2
      have D2 : ENr g' o (min (tyA B L n).1 (elA B L (tyA B L n).2 (lsN B L 0 n) (liK B L 0 (lsN B L 0 n)))) ∧ RT g' o (if min (tyA B L n).1 (elA B L (tyA B L n).2 (lsN B L 0 n) (liK B L 0 (lsN B L 0 n))) = 9999 then stpA B L (tyA B L n).2 (lsN B L 0 n) (liK B L 0 (lsN B L 0 n)) n else (tyA B L n).2) := D
      rw [c] at D2
      rw [e2]
      have m9 : min 9999 (elA B L (tyA B L n).2 (lsN B L 0 n) (liK B L 0 (lsN B L 0 n))) = elA B L (tyA B L n).2 (lsN B L 0 n) (liK B L 0 (lsN B L 0 n)) := by omega
      rw [m9] at D2
      exact D2
    · have e2 : tyA B L (n + 1) = tyA B L n := ty_2 (el := elA B L) (stp := fun T f k n => stpA B L T f k n) (s := 0) c
      show ENr g' o (tyA B L (n + 1)).1 ∧ RT g' o (tyA B L (n + 1)).2
      have D2 : ENr g' o (min (tyA B L n).1 (elA B L (tyA B L n).2 (lsN B L 0 n) (liK B L 0 (lsN B L 0 n)))) ∧ RT g' o (if min (tyA B L n).1 (elA B L (tyA B L n).2 (lsN B L 0 n) (liK B L 0 (lsN B L 0 n))) = 9999 then stpA B L (tyA B L n).2 (lsN B L 0 n) (liK B L 0 (lsN B L 0 n)) n else (tyA B L n).2) := D
      have lt : (tyA B L n).1 < 8 * lsN B L 0 n := by
        rcases tbn with q | q
        · exact absurd q c
        · exact q
      have h6 := hL.2.1
      have m9 : min (tyA B L n).1 (elA B L (tyA B L n).2 (lsN B L 0 n) (liK B L 0 (lsN B L 0 n))) = (tyA B L n).1 := by omega
      rw [m9, if_neg c] at D2
      rw [e2]
      exact D2
/-- the reference reads questions -/
theorem RP.readQ (H : RP h o B L) : ∃ h', m_X12_readText o (J 1) h = some (J (b01 (decide (feT B L 1 (tyQ B L (nlN B L 1)).1 = 9999))), h') ∧ FR (Art o) h h' ∧ (∃ z p, hE h' (o + 3) 0 = z ∧ hE h' (o + 4) 0 = p ∧ DCD z p (feT B L 1 (tyQ B L (nlN B L 1)).1)) ∧ (feT B L 1 (tyQ B L (nlN B L 1)).1 = 9999 → RDq h' o 9999 (tyQ B L (nlN B L 1)).2) := by
  have hL := H.2.1
  obtain ⟨n0, n1, n2, n3⟩ := nl_spec (B := B) (s := 1) hL.1 hL.2.1
  have tb := TyB_all (el := elQ B L) (stp := fun Q f k _ => stpQ B L Q f k) (B := B) (s := 1) hL.1 hL.2.1 (fun n hn c => by
    have r := ls_rg (B := B) (s := 1) hL.1 hL.2.1 n
    have lw := lo_2 (n2 (n : Int) (by omega) hn) r.1 r.2 hL.2.1
    exact EB_Q lw.1 lw.2.2.1)
  refine X12_readText_ok (el := elQ B L) (stp := fun Q f k _ => stpQ B L Q f k) (fun g E Q => RDq g o E Q) (fun A g g' E T D F n => D.frame F n) H (by omega) (by omega) (fun g tr z => ⟨by rw [z 0 (by omega) (by omega)]; omega, fun _ => ⟨QW_0, fun i i0 i1 => z i i0 (by omega)⟩⟩) (fun g n hn fl Hg Kg Eg Dg h22 h21 h23 => ?_)
  have r := ls_rg (B := B) (s := 1) hL.1 hL.2.1 n
  have tbn := tb n hn
  obtain ⟨x, g', e1, R⟩ := RK.askingLine Kg Hg Eg h22 h21 r.1 fl Dg rfl
  refine ⟨x, g', ?_, R.map (fun k0 k1 mi D => ?_)⟩
  · unfold lnFn
    rw [if_neg (by omega), if_pos rfl]
    exact e1
  · have W : LnW B L (lsN B L 1 n) (liK B L 1 (lsN B L 1 n)) := ⟨⟨r.1, r.2, hL.2.1⟩, ⟨k0, k1⟩, mi⟩
    have eb := EB_up (EB_Q (own := hE g (o + 9) 0) W rfl) (EB_le W rfl).2
    show ENr g' o (tyQ B L (n + 1)).1 ∧ RDq g' o (tyQ B L (n + 1)).1 (tyQ B L (n + 1)).2
    have D2 : ENr g' o (min (tyQ B L n).1 (elQo B L (hE g (o + 9) 0) (lsN B L 1 n) (liK B L 1 (lsN B L 1 n)))) ∧ RDq g' o (min (tyQ B L n).1 (elQo B L (hE g (o + 9) 0) (lsN B L 1 n) (liK B L 1 (lsN B L 1 n)))) (stpQ B L (tyQ B L n).2 (lsN B L 1 n) (liK B L 1 (lsN B L 1 n))) := D
    have Dg : RDq g o (tyQ B L n).1 (tyQ B L n).2 := Dg
    by_cases c : (tyQ B L n).1 = 9999
    · have e2 : tyQ B L (n + 1) = (elQ B L (tyQ B L n).2 (lsN B L 1 n) (liK B L 1 (lsN B L 1 n)), if elQ B L (tyQ B L n).2 (lsN B L 1 n) (liK B L 1 (lsN B L 1 n)) = 9999 then stpQ B L (tyQ B L n).2 (lsN B L 1 n) (liK B L 1 (lsN B L 1 n)) else (tyQ B L n).2) := ty_1 (el := elQ B L) (stp := fun Q f k _ => stpQ B L Q f k) (s := 1) c
      have own : hE g (o + 9) 0 = (tyQ B L n).2 0 := (Dg.2 c).2 0 (by omega) (by omega)
      have eo : elQo B L (hE g (o + 9) 0) (lsN B L 1 n) (liK B L 1 (lsN B L 1 n)) = elQ B L (tyQ B L n).2 (lsN B L 1 n) (liK B L 1 (lsN B L 1 n)) := by
        rw [own]
        rfl
      rw [eo] at eb D2
      rw [c] at D2
      have m9 : min 9999 (elQ B L (tyQ B L n).2 (lsN B L 1 n) (liK B L 1 (lsN B L 1 n))) = elQ B L (tyQ B L n).2 (lsN B L 1 n) (liK B L 1 (lsN B L 1 n)) := by omega
      rw [m9] at D2
      rw [e2]
      refine ⟨D2.1, D2.2.1, fun q => ?_⟩
      have q2 : elQ B L (tyQ B L n).2 (lsN B L 1 n) (liK B L 1 (lsN B L 1 n)) = 9999 := q
      have := D2.2.2 q2
      simp only [if_pos q2]
      exact this
    · have e2 : tyQ B L (n + 1) = tyQ B L n := ty_2 (el := elQ B L) (stp := fun Q f k _ => stpQ B L Q f k) (s := 1) c
      have lt : (tyQ B L n).1 < 8 * lsN B L 1 n := by
        rcases tbn with q | q
        · exact absurd q c
        · exact q
      have h6 := hL.2.1
      have m9 : min (tyQ B L n).1 (elQo B L (hE g (o + 9) 0) (lsN B L 1 n) (liK B L 1 (lsN B L 1 n))) = (tyQ B L n).1 := by omega
      rw [m9] at D2
      rw [e2]
      exact ⟨D2.1, D2.2.1, fun q => absurd q c⟩
/-- the reference reads a hunt -/
theorem RP.readU (H : RP h o B L) : ∃ h', m_X12_readText o (J 2) h = some (J (b01 (decide (feT B L 2 (tyU B L (nlN B L 2)).1 = 9999))), h') ∧ FR (Art o) h h' ∧ (∃ z p, hE h' (o + 3) 0 = z ∧ hE h' (o + 4) 0 = p ∧ DCD z p (feT B L 2 (tyU B L (nlN B L 2)).1)) ∧ (feT B L 2 (tyU B L (nlN B L 2)).1 = 9999 → RDu h' o 9999 (tyU B L (nlN B L 2)).2) := by
  have hL := H.2.1
  obtain ⟨n0, n1, n2, n3⟩ := nl_spec (B := B) (s := 2) hL.1 hL.2.1
  have tb := TyB_all (el := elU B L) (stp := fun U f k _ => stpU B L U f k) (B := B) (s := 2) hL.1 hL.2.1 (fun n hn c => by
    have r := ls_rg (B := B) (s := 2) hL.1 hL.2.1 n
    have lw := lo_2 (n2 (n : Int) (by omega) hn) r.1 r.2 hL.2.1
    exact EB_U lw.1 lw.2.2.1)
  refine X12_readText_ok (el := elU B L) (stp := fun U f k _ => stpU B L U f k) (fun g E U => RDu g o E U) (fun A g g' E T D F n => D.frame F n) H (by omega) (by omega) (fun g tr z => ⟨by rw [z 0 (by omega) (by omega)]; omega, fun _ => ⟨HW_0, fun i i0 i1 => z i i0 (by omega)⟩⟩) (fun g n hn fl Hg Kg Eg Dg h22 h21 h23 => ?_)
  have r := ls_rg (B := B) (s := 2) hL.1 hL.2.1 n
  have tbn := tb n hn
  obtain ⟨x, g', e1, R⟩ := RK.huntLine Kg Hg Eg h22 h21 r.1 fl Dg rfl
  refine ⟨x, g', ?_, R.map (fun k0 k1 mi D => ?_)⟩
  · unfold lnFn
    rw [if_neg (by omega), if_neg (by omega)]
    exact e1
  · have W : LnW B L (lsN B L 2 n) (liK B L 2 (lsN B L 2 n)) := ⟨⟨r.1, r.2, hL.2.1⟩, ⟨k0, k1⟩, mi⟩
    have eb := EB_up (EB_U (own := hE g (o + 9) 0) W rfl) (EB_le W rfl).2
    show ENr g' o (tyU B L (n + 1)).1 ∧ RDu g' o (tyU B L (n + 1)).1 (tyU B L (n + 1)).2
    have D2 : ENr g' o (min (tyU B L n).1 (elUo B L (hE g (o + 9) 0) (lsN B L 2 n) (liK B L 2 (lsN B L 2 n)))) ∧ RDu g' o (min (tyU B L n).1 (elUo B L (hE g (o + 9) 0) (lsN B L 2 n) (liK B L 2 (lsN B L 2 n)))) (stpU B L (tyU B L n).2 (lsN B L 2 n) (liK B L 2 (lsN B L 2 n))) := D
    have Dg : RDu g o (tyU B L n).1 (tyU B L n).2 := Dg
    by_cases c : (tyU B L n).1 = 9999
    · have e2 : tyU B L (n + 1) = (elU B L (tyU B L n).2 (lsN B L 2 n) (liK B L 2 (lsN B L 2 n)), if elU B L (tyU B L n).2 (lsN B L 2 n) (liK B L 2 (lsN B L 2 n)) = 9999 then stpU B L (tyU B L n).2 (lsN B L 2 n) (liK B L 2 (lsN B L 2 n)) else (tyU B L n).2) := ty_1 (el := elU B L) (stp := fun U f k _ => stpU B L U f k) (s := 2) c
      have own : hE g (o + 9) 0 = (tyU B L n).2 0 := (Dg.2 c).2 0 (by omega) (by omega)
      have eo : elUo B L (hE g (o + 9) 0) (lsN B L 2 n) (liK B L 2 (lsN B L 2 n)) = elU B L (tyU B L n).2 (lsN B L 2 n) (liK B L 2 (lsN B L 2 n)) := by
        rw [own]
        rfl
      rw [eo] at eb D2
      rw [c] at D2
      have m9 : min 9999 (elU B L (tyU B L n).2 (lsN B L 2 n) (liK B L 2 (lsN B L 2 n))) = elU B L (tyU B L n).2 (lsN B L 2 n) (liK B L 2 (lsN B L 2 n)) := by omega
      rw [m9] at D2
      rw [e2]
      refine ⟨D2.1, D2.2.1, fun q => ?_⟩
      have q2 : elU B L (tyU B L n).2 (lsN B L 2 n) (liK B L 2 (lsN B L 2 n)) = 9999 := q
      have := D2.2.2 q2
      simp only [if_pos q2]
      exact this
    · have e2 : tyU B L (n + 1) = tyU B L n := ty_2 (el := elU B L) (stp := fun U f k _ => stpU B L U f k) (s := 2) c
      have lt : (tyU B L n).1 < 8 * lsN B L 2 n := by
        rcases tbn with q | q
        · exact absurd q c
        · exact q
      have h6 := hL.2.1
      have m9 : min (tyU B L n).1 (elUo B L (hE g (o + 9) 0) (lsN B L 2 n) (liK B L 2 (lsN B L 2 n))) = (tyU B L n).1 := by omega
      rw [m9] at D2
      rw [e2]
      exact ⟨D2.1, D2.2.1, fun q => absurd q c⟩
end BT
