/-! PURE PART: texts of the three sorts, the class -/
section BC
variable {h : Hp} {r a : Nat} {B : Int → Int} {L : Int}
theorem CA.arf {g g' : Hp} {T : Int → Int} (hal : a + 1 < r ∨ r + 22 < a) (C : CA g (r + 6) T) (F : FR (ARf r a) g g') : CA g' (r + 6) T := by
  refine C.frame F ?_ ?_ (fun k => ?_) (fun k => ?_) (fun k => ?_) (fun k => ?_) (fun k => ?_) (fun k => ?_) <;> · unfold ARf ARd ATk Afc; omega
theorem DA.arf {g g' : Hp} {T : Int → Int} (hal : a + 1 < r ∨ r + 22 < a) (D : DA g (r + 6) T) (F : FR (ARf r a) g g') : DA g' (r + 6) T := ⟨D.1, fun d v hv => by rw [F.e (by unfold ARf ARd ATk Afc; omega), D.2 d v hv]⟩
theorem QA.arf {g g' : Hp} {Q : Int → Int} (hal : a + 1 < r ∨ r + 22 < a) (C : QA g (r + 16) Q) (F : FR (ARf r a) g g') : QA g' (r + 16) Q := by
  refine C.frame F ?_ (fun k => ?_) (fun k => ?_) (fun k => ?_) (fun k => ?_) <;> · unfold ARf ARd ATk Afc; omega
theorem HA.frame {A : Nat → Nat → Prop} {g g' : Hp} {c : Nat} {U : Int → Int} (C : HA g c U) (F : FR A g g') (n0 : ¬ A c 0) (n1 : ∀ k, ¬ A (c + 1) k) : HA g' c U := by
  obtain ⟨c1, c2, c3, c4⟩ := C
  exact ⟨by rw [F.1]; exact c1, c2, by rw [F.e n0, c3], fun i i0 i1 => by rw [F.e (n1 _), c4 i i0 i1]⟩
theorem CT.takeA (R : TRd (top h) r) (H : CT h a B L) (hal : a + 1 < r ∨ r + 22 < a) : ∃ h', m_X7_take r a (J 0) h = some h' ∧ FR (Atk r a) h h' ∧ ENc h' r (feT B L 0 (tyA B L (nlN B L 0)).1) ∧ (feT B L 0 (tyA B L (nlN B L 0)).1 = 9999 → CA h' (r + 6) (tyA B L (nlN B L 0)).2 ∧ DA h' (r + 6) (tyA B L (nlN B L 0)).2 ∧ CW h' (r + 6) (tyA B L (nlN B L 0)).2) := by
  have hL := H.2.1
  have inv := InvA_all (B := B) hL.1 hL.2.1
  obtain ⟨g, T', h', e1, F1, C1, e2, F2, W2, E2, X⟩ := X7_take_ok (el := elA B L) (stp := fun T f k n => stpA B L T f k n) (s := 0) (fun g T => CA g (r + 6) T ∧ DA g (r + 6) T ∧ hE g (r + 16) 0 = 0) (Amk r) (fun g g' T C F => ⟨C.1.arf hal F, C.2.1.arf hal F, by rw [F.e (by unfold ARf ARd ATk Afc; omega), C.2.2]⟩) (fun b k q => by unfold Amk at q; omega) ⟨by unfold Amk; omega, by unfold Amk; omega⟩ (fun g T C => ⟨T, C.1⟩) R H hal (by omega) (by omega) (fun g F c d q u => ⟨c, d, q.2.2.1⟩) (fun g n hn ty C Rg P W E => by
    obtain ⟨i1, i2, i3, i4⟩ := inv n (by omega)
    have rr := ls_rg (B := B) (s := 0) hL.1 hL.2.1 n
    have k89 : 8 ≤ liK B L 0 (lsN B L 0 n) ∧ liK B L 0 (lsN B L 0 n) ≤ 12 := by
      have w := W.2.1
      rcases li_rg (B := B) (L := L) (s := 0) (f := lsN B L 0 n) with q | q
      · omega
      · exact so_0 q.2.2 q.1 q.2.1
    obtain ⟨x, x1, xF, xE⟩ := P.notBe Rg W E C.2.2 (by omega) (by omega)
    have l1_ : e2n B L (lsN B L 0 n) (liK B L 0 (lsN B L 0 n)) 0 ≤ 9999 := bnU_le
    rw [show min 9999 (min (e2n B L (lsN B L 0 n) (liK B L 0 (lsN B L 0 n)) 0) (e2w B L (lsN B L 0 n) (liK B L 0 (lsN B L 0 n)))) = min (e2n B L (lsN B L 0 n) (liK B L 0 (lsN B L 0 n)) 0) (e2w B L (lsN B L 0 n) (liK B L 0 (lsN B L 0 n))) by omega] at xE
    have nv := i4 ty
    obtain ⟨g', y1, yF, yE, yC, yD⟩ := (P.frc xF).takeVersion (Rg.fr xF) W (C.1.frc xF) (C.2.1.frc xF) k89.1 k89.2 xE (fun n20 => by
      have := hL.2.1
      have i3' : 11 * (tyA B L n).2 5 ≤ 5 * lsN B L 0 n := i3
      show (tyA B L n).2 5 + _ ≤ 319
      omega) (dt := (n : Int)) nv.symm (by
      have := (nl_spec (B := B) (s := 0) hL.1 hL.2.1).2.1
      omega)
    have e2 : tyA B L (n + 1) = (elA B L (tyA B L n).2 (lsN B L 0 n) (liK B L 0 (lsN B L 0 n)), if elA B L (tyA B L n).2 (lsN B L 0 n) (liK B L 0 (lsN B L 0 n)) = 9999 then stpA B L (tyA B L n).2 (lsN B L 0 n) (liK B L 0 (lsN B L 0 n)) n else (tyA B L n).2) := ty_1 (el := elA B L) (stp := fun T f k n => stpA B L T f k n) (s := 0) ty
    have yF' : FR (ARA r a (Amk r)) x g' := yF.mono (fun b k q => by
      rcases q with q | q
      · exact Or.inl (Or.inr q)
      · exact Or.inr q)
    refine ⟨x, g', x1, xF, by rw [if_pos rfl]; exact y1, (xF.mono (fun b k q => Or.inl (Or.inr q))).trans yF', ?_, ?_, ?_⟩
    · rw [yF.e (by unfold Atv Afc Amk; omega), xF.e (by unfold Afc; omega)]
    · show ENc g' r (tyA B L (n + 1)).1
      rw [e2]
      exact yE
    · show CA g' (r + 6) (tyA B L (n + 1)).2 ∧ DA g' (r + 6) (tyA B L (n + 1)).2 ∧ hE g' (r + 16) 0 = 0
      rw [e2]
      exact ⟨yC, yD, by rw [yF.e (by unfold Atv Afc Amk; omega), xF.e (by unfold Afc; omega), C.2.2]⟩)
  refine ⟨h', e1, F1.trans (F2.mono (fun b k q => Or.inl (by unfold AWd at q; omega))), E2, fun q => ?_⟩
  have Y : CA g (r + 6) (tyA B L (nlN B L 0)).2 ∧ DA g (r + 6) (tyA B L (nlN B L 0)).2 ∧ hE g (r + 16) 0 = 0 := X q
  obtain ⟨h2, e3, F3, W3⟩ := Y.1.listWords
  rw [e3] at e2
  cases e2
  exact ⟨Y.1.frW F3, ⟨Y.2.1.1, fun d v hv => by rw [F3.e (by unfold AWd; omega), Y.2.1.2 d v hv]⟩, W3⟩
theorem CT.takeQ (R : TRd (top h) r) (H : CT h a B L) (hal : a + 1 < r ∨ r + 22 < a) : ∃ h', m_X7_take r a (J 1) h = some h' ∧ FR (Atk r a) h h' ∧ ENc h' r (feT B L 1 (tyQ B L (nlN B L 1)).1) ∧ (feT B L 1 (tyQ B L (nlN B L 1)).1 = 9999 → QA h' (r + 16) (tyQ B L (nlN B L 1)).2) := by
  have hL := H.2.1
  obtain ⟨g, T', h', e1, F1, C1, e2, F2, W2, E2, X⟩ := X7_take_ok (el := elQ B L) (stp := fun Q f k _ => stpQ B L Q f k) (s := 1) (fun g Q => QA g (r + 16) Q ∧ CA g (r + 6) (fun _ => 0)) (Aqs r) (fun g g' T C F => ⟨C.1.arf hal F, C.2.arf hal F⟩) (fun b k q => by unfold Aqs at q; omega) ⟨by unfold Aqs; omega, by unfold Aqs; omega⟩ (fun g T C => ⟨_, C.2⟩) R H hal (by omega) (by omega) (fun g F c d q u => ⟨q, c⟩) (fun g n hn ty C Rg P W E => by
    have k7 : liK B L 1 (lsN B L 1 n) ≤ 7 := by
      have w := W.2.1
      rcases li_rg (B := B) (L := L) (s := 1) (f := lsN B L 1 n) with q | q
      · omega
      · have z := q.2.2
        unfold soK at z
        split at z
        · omega
        · split at z <;> omega
    have C : QA g (r + 16) (tyQ B L n).2 ∧ CA g (r + 6) (fun _ => 0) := C
    have q0 := C.1.2.1.1
    obtain ⟨x, x1, xF, xE⟩ := P.notBe Rg W E C.1.2.2.1 q0.1 q0.2
    have l1_ : e2n B L (lsN B L 1 n) (liK B L 1 (lsN B L 1 n)) ((tyQ B L n).2 0) ≤ 9999 := bnU_le
    rw [show min 9999 (min (e2n B L (lsN B L 1 n) (liK B L 1 (lsN B L 1 n)) ((tyQ B L n).2 0)) (e2w B L (lsN B L 1 n) (liK B L 1 (lsN B L 1 n)))) = min (e2n B L (lsN B L 1 n) (liK B L 1 (lsN B L 1 n)) ((tyQ B L n).2 0)) (e2w B L (lsN B L 1 n) (liK B L 1 (lsN B L 1 n))) by omega] at xE
    have xa : FR (ARf r a) g x := xF.mono (fun b k q => Or.inr q)
    obtain ⟨g', y1, yF, yE, yC⟩ := (P.frc xF).takeQuestion (Rg.fr xF) W (C.1.arf hal xa) k7 xE
    have e2 : tyQ B L (n + 1) = (elQ B L (tyQ B L n).2 (lsN B L 1 n) (liK B L 1 (lsN B L 1 n)), if elQ B L (tyQ B L n).2 (lsN B L 1 n) (liK B L 1 (lsN B L 1 n)) = 9999 then stpQ B L (tyQ B L n).2 (lsN B L 1 n) (liK B L 1 (lsN B L 1 n)) else (tyQ B L n).2) := ty_1 (el := elQ B L) (stp := fun Q f k _ => stpQ B L Q f k) (s := 1) ty
    have yF' : FR (ARA r a (Aqs r)) x g' := yF.mono (fun b k q => by
      rcases q with q | q
      · exact Or.inl (Or.inr q)
      · exact Or.inr q)
    refine ⟨x, g', x1, xF, by rw [if_neg (by omega), if_pos rfl]; exact y1, (xF.mono (fun b k q => Or.inl (Or.inr q))).trans yF', ?_, ?_, ?_⟩
    · rw [yF.e (by unfold Aqf Afc Aqs; omega), xF.e (by unfold Afc; omega)]
    · show ENc g' r (tyQ B L (n + 1)).1
      rw [e2]
      exact yE
    · show QA g' (r + 16) (tyQ B L (n + 1)).2 ∧ CA g' (r + 6) (fun _ => 0)
      rw [e2]
      refine ⟨yC, (C.2.arf hal xa).frame yF ?_ ?_ (fun k => ?_) (fun k => ?_) (fun k => ?_) (fun k => ?_) (fun k => ?_) (fun k => ?_)⟩ <;> · unfold Aqf Afc Aqs; omega)
  refine ⟨h', e1, F1.trans (F2.mono (fun b k q => Or.inl (by unfold AWd at q; omega))), E2, fun q => ?_⟩
  have Y : QA g (r + 16) (tyQ B L (nlN B L 1)).2 ∧ CA g (r + 6) (fun _ => 0) := X q
  refine Y.1.frame F2 ?_ (fun k => ?_) (fun k => ?_) (fun k => ?_) (fun k => ?_) <;> · unfold AWd; omega
theorem CT.takeU (R : TRd (top h) r) (H : CT h a B L) (hal : a + 1 < r ∨ r + 22 < a) : ∃ h', m_X7_take r a (J 2) h = some h' ∧ FR (Atk r a) h h' ∧ ENc h' r (feT B L 2 (tyU B L (nlN B L 2)).1) ∧ (feT B L 2 (tyU B L (nlN B L 2)).1 = 9999 → HA h' (r + 21) (tyU B L (nlN B L 2)).2) := by
  have hL := H.2.1
  obtain ⟨g, T', h', e1, F1, C1, e2, F2, W2, E2, X⟩ := X7_take_ok (el := elU B L) (stp := fun U f k _ => stpU B L U f k) (s := 2) (fun g U => HA g (r + 21) U ∧ CA g (r + 6) (fun _ => 0) ∧ hE g (r + 16) 0 = 0) (fun b _ => r + 21 ≤ b ∧ b ≤ r + 22) (fun g g' T C F => ⟨C.1.frame F (by unfold ARf ARd ATk Afc; omega) (fun k => by unfold ARf ARd ATk Afc; omega), C.2.1.arf hal F, by rw [F.e (by unfold ARf ARd ATk Afc; omega), C.2.2]⟩) (fun b k q => by omega) ⟨by omega, by omega⟩ (fun g T C => ⟨_, C.2.1⟩) R H hal (by omega) (by omega) (fun g F c d q u => ⟨u, c, q.2.2.1⟩) (fun g n hn ty C Rg P W E => by
    have k13 : 13 ≤ liK B L 2 (lsN B L 2 n) := by
      have w := W.2.1
      rcases li_rg (B := B) (L := L) (s := 2) (f := lsN B L 2 n) with q | q
      · omega
      · have z := q.2.2
        unfold soK at z
        split at z
        · omega
        · split at z <;> omega
    have C : HA g (r + 21) (tyU B L n).2 ∧ CA g (r + 6) (fun _ => 0) ∧ hE g (r + 16) 0 = 0 := C
    obtain ⟨x, x1, xF, xE⟩ := P.notBe Rg W E C.2.2 (by omega) (by omega)
    have l1_ : e2n B L (lsN B L 2 n) (liK B L 2 (lsN B L 2 n)) 0 ≤ 9999 := bnU_le
    rw [show min 9999 (min (e2n B L (lsN B L 2 n) (liK B L 2 (lsN B L 2 n)) 0) (e2w B L (lsN B L 2 n) (liK B L 2 (lsN B L 2 n)))) = min (e2n B L (lsN B L 2 n) (liK B L 2 (lsN B L 2 n)) 0) (e2w B L (lsN B L 2 n) (liK B L 2 (lsN B L 2 n))) by omega] at xE
    have xa : FR (ARf r a) g x := xF.mono (fun b k q => Or.inr q)
    obtain ⟨g', y1, yF, yE, yC⟩ := (P.frc xF).takeFact (Rg.fr xF) W (C.1.frame xF (by unfold Afc; omega) (fun k => by unfold Afc; omega)) k13 xE
    have e2 : tyU B L (n + 1) = (elU B L (tyU B L n).2 (lsN B L 2 n) (liK B L 2 (lsN B L 2 n)), if elU B L (tyU B L n).2 (lsN B L 2 n) (liK B L 2 (lsN B L 2 n)) = 9999 then stpU B L (tyU B L n).2 (lsN B L 2 n) (liK B L 2 (lsN B L 2 n)) else (tyU B L n).2) := ty_1 (el := elU B L) (stp := fun U f k _ => stpU B L U f k) (s := 2) ty
    have yF' : FR (ARA r a (fun b _ => r + 21 ≤ b ∧ b ≤ r + 22)) x g' := yF.mono (fun b k q => by
      rcases q with q | q
      · exact Or.inl (Or.inr q)
      · exact Or.inr q)
    refine ⟨x, g', x1, xF, by rw [if_neg (by omega), if_neg (by omega)]; exact y1, (xF.mono (fun b k q => Or.inl (Or.inr q))).trans yF', ?_, ?_, ?_⟩
    · rw [yF.e (by unfold Auf Afc; omega), xF.e (by unfold Afc; omega)]
    · show ENc g' r (tyU B L (n + 1)).1
      rw [e2]
      exact yE
    · show HA g' (r + 21) (tyU B L (n + 1)).2 ∧ CA g' (r + 6) (fun _ => 0) ∧ hE g' (r + 16) 0 = 0
      rw [e2]
      refine ⟨yC, (C.2.1.arf hal xa).frame yF ?_ ?_ (fun k => ?_) (fun k => ?_) (fun k => ?_) (fun k => ?_) (fun k => ?_) (fun k => ?_), by rw [yF.e (by unfold Auf Afc; omega), xF.e (by unfold Afc; omega), C.2.2]⟩ <;> · unfold Auf Afc; omega)
  refine ⟨h', e1, F1.trans (F2.mono (fun b k q => Or.inl (by unfold AWd at q; omega))), E2, fun q => ?_⟩
  have Y : HA g (r + 21) (tyU B L (nlN B L 2)).2 ∧ CA g (r + 6) (fun _ => 0) ∧ hE g (r + 16) 0 = 0 := X q
  exact Y.1.frame F2 (by unfold AWd; omega) (fun k => by unfold AWd; omega)
end BC
