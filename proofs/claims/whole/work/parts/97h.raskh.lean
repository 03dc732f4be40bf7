/-! PURE PART: a line of questions, of a hunt, the reference, the rest -/
abbrev LkV (k : Int) : Int64 := L (kwV k)
section RQm
variable {h h0 : Hp} {o : Nat} {B : Int → Int} {L f k E own : Int} {Q U : Int → Int}
theorem RDq.frame {A : Nat → Nat → Prop} {h' : Hp} (D : RDq h o E Q) (F : FR A h h') (n : ∀ k, ¬ A (o + 9) k) : RDq h' o E Q := ⟨by rw [F.e (n _)]; exact D.1, fun q => ⟨(D.2 q).1, fun i i0 i1 => by rw [F.e (n _), (D.2 q).2 i i0 i1]⟩⟩
theorem RDu.frame {A : Nat → Nat → Prop} {h' : Hp} (D : RDu h o E Q) (F : FR A h h') (n : ∀ k, ¬ A (o + 9) k) : RDu h' o E Q := ⟨by rw [F.e (n _)]; exact D.1, fun q => ⟨(D.2 q).1, fun i i0 i1 => by rw [F.e (n _), (D.2 q).2 i i0 i1]⟩⟩
theorem RK.askingLine (K : RK h o B L f) (H : RP h o B L) (e : ENr h o E) (h22 : hE h o 22 = 1) (h21 : hE h o 21 = 0) (f0 : 0 ≤ f) (fl : f < L) (D : RDq h o E Q) (hown : hE h (o + 9) 0 = own) : ∃ x h', m_X12_askingLine o (ltF B L f) (J f) h = some (J x, h') ∧ RXx h h' o B L 1 f x (fun k g => ENr g o (min E (elQo B L own f k)) ∧ RDq g o (min E (elQo B L own f k)) (stpQ B L Q f k)) := by
  have hL := H.2.1.2.1
  have T := H.1
  have or := D.1
  rw [hown] at or
  have eE := e.le
  have hc : ckF B L f ≠ 0 := fun q => by
    have := (ck_0 (B := B) (L := L) (f := f)).mp q
    omega
  have so : ∀ j, 0 ≤ j → j < 15 → soK j = 1 → j < 8 := fun j j0 j1 q => by
    unfold soK at q
    split at q
    · omega
    · split at q <;> omega
  have cw : ∀ n : Nat, n < 8 → ∀ c : Int64, c = LkV ((n : Nat) : Int) → (lg_cmp (ltF B L f) c = 0) = (kwQ B L f ((n : Nat) : Int) = true) := fun n hn c q => cmp_kw (by omega) (by omega) (by omega) q
  have c0 := cw 0 (by omega) (123593897898853 : Int64) (by unfold LkV; rw [kwv (k := 0) (by omega) rfl]; rfl)
  have c1 := cw 1 (by omega) (1852137842 : Int64) (by unfold LkV; rw [kwv (k := 1) (by omega) rfl]; rfl)
  have c2 := cw 2 (by omega) (1835101817 : Int64) (by unfold LkV; rw [kwv (k := 2) (by omega) rfl]; rfl)
  have c3 := cw 3 (by omega) (7237492 : Int64) (by unfold LkV; rw [kwv (k := 3) (by omega) rfl]; rfl)
  have c4 := cw 4 (by omega) (1702258034 : Int64) (by unfold LkV; rw [kwv (k := 4) (by omega) rfl]; rfl)
  have c5 := cw 5 (by omega) (7234935 : Int64) (by unfold LkV; rw [kwv (k := 5) (by omega) rfl]; rfl)
  have c6 := cw 6 (by omega) (6385252 : Int64) (by unfold LkV; rw [kwv (k := 6) (by omega) rfl]; rfl)
  have c7 := cw 7 (by omega) (28530 : Int64) (by unfold LkV; rw [kwv (k := 7) (by omega) rfl]; rfl)
  have cb : m_X12_askingBy o (ltF B L f) h = some (if kwQ B L f ((0 : Nat) : Int) = true then J 0 else if kwQ B L f ((1 : Nat) : Int) = true then J 1 else if kwQ B L f ((2 : Nat) : Int) = true then J 2 else if kwQ B L f ((3 : Nat) : Int) = true then J 3 else if kwQ B L f ((4 : Nat) : Int) = true then J 4 else if kwQ B L f ((5 : Nat) : Int) = true then J 5 else if kwQ B L f ((6 : Nat) : Int) = true then J 6 else if kwQ B L f ((7 : Nat) : Int) = true then J 7 else J (-1)) := by
    unfold m_X12_askingBy j_X12_askingBy_99
    simp only [c0, c1, c2, c3, c4, c5, c6, c7, ite_not]
    rfl
  have cl : m_X12_askingBy o (ltF B L f) h = some (J (liK B L 1 f)) := by
    rw [cb]
    have step : ∀ n : Nat, n < 8 → (∀ j : Nat, j < n → kwQ B L f ((j : Nat) : Int) = false) → kwQ B L f ((n : Nat) : Int) = true → liK B L 1 f = (n : Int) := fun n hn a q => li_is (by omega) (by omega) (by unfold soK; rw [if_pos (by omega)]) q (fun j j0 j1 js => by
      have := a j.toNat (by omega)
      rw [show ((j.toNat : Nat) : Int) = j by omega] at this
      exact this)
    have neg : ∀ n : Nat, ¬ kwQ B L f ((n : Nat) : Int) = true → kwQ B L f ((n : Nat) : Int) = false := fun n q => by simpa using q
    have ext : ∀ n : Nat, (∀ j : Nat, j < n → kwQ B L f ((j : Nat) : Int) = false) → ¬ kwQ B L f ((n : Nat) : Int) = true → ∀ j : Nat, j < n + 1 → kwQ B L f ((j : Nat) : Int) = false := fun n a q j hj => by
      by_cases y : j = n
      · rw [y]
        exact neg n q
      · exact a j (by omega)
    have a0 : ∀ j : Nat, j < 0 → kwQ B L f ((j : Nat) : Int) = false := fun j hj => absurd hj (Nat.not_lt_zero _)
    by_cases q0 : kwQ B L f ((0 : Nat) : Int) = true
    · rw [if_pos q0, step 0 (by omega) a0 q0]; rfl
    · have a1 := ext 0 a0 q0
      rw [if_neg q0]
      by_cases q1 : kwQ B L f ((1 : Nat) : Int) = true
      · rw [if_pos q1, step 1 (by omega) a1 q1]; rfl
      · have a2 := ext 1 a1 q1
        rw [if_neg q1]
        by_cases q2 : kwQ B L f ((2 : Nat) : Int) = true
        · rw [if_pos q2, step 2 (by omega) a2 q2]; rfl
        · have a3 := ext 2 a2 q2
          rw [if_neg q2]
          by_cases q3 : kwQ B L f ((3 : Nat) : Int) = true
          · rw [if_pos q3, step 3 (by omega) a3 q3]; rfl
          · have a4 := ext 3 a3 q3
            rw [if_neg q3]
            by_cases q4 : kwQ B L f ((4 : Nat) : Int) = true
            · rw [if_pos q4, step 4 (by omega) a4 q4]; rfl
            · have a5 := ext 4 a4 q4
              rw [if_neg q4]
              by_cases q5 : kwQ B L f ((5 : Nat) : Int) = true
              · rw [if_pos q5, step 5 (by omega) a5 q5]; rfl
              · have a6 := ext 5 a5 q5
                rw [if_neg q5]
                by_cases q6 : kwQ B L f ((6 : Nat) : Int) = true
                · rw [if_pos q6, step 6 (by omega) a6 q6]; rfl
                · have a7 := ext 6 a6 q6
                  rw [if_neg q6]
                  by_cases q7 : kwQ B L f ((7 : Nat) : Int) = true
                  · rw [if_pos q7, step 7 (by omega) a7 q7]; rfl
                  · have a8 := ext 7 a7 q7
                    rw [if_neg q7, li_no (fun j j0 j1 js => by
                      have y := so j j0 j1 js
                      have := a8 j.toNat (by omega)
                      rw [show ((j.toNat : Nat) : Int) = j by omega] at this
                      exact this)]
  have kr := li_rg (B := B) (L := L) (s := 1) (f := f)
  generalize hk : liK B L 1 f = k at *
  by_cases kn : k = -1
  · rw [kn] at cl
    obtain ⟨g, a1, F, v⟩ := K.fails H
    refine ⟨0, g, ?_, Or.inl ⟨rfl, ?_, F.mono (fun b k q => Or.inl (Ard_f q)), ?_⟩⟩
    · unfold m_X12_askingLine
      rw [rc_ok H.tag, cl, bs, if_neg (fun q => q rfl), rc_ok H.tag, a1, bs, zb0, bs]
    · unfold loF
      rw [if_neg hc, hk, if_pos kn]
    · unfold leF
      rw [if_neg hc, hk, if_pos kn]
      exact v
  · have k0 : 0 ≤ k ∧ k < 15 := by omega
    have k7 : k ≤ 7 := by
      rcases kr with q | q
      · exact absurd q kn
      · have := so k q.1 q.2.1 q.2.2
        omega
    have t0 : alI h (o + 9) (J 0) = some (J own) := by rw [alI_ok T.a18 (by omega) (by omega) (by omega), hown]
    -- from the token on
    have rest : ∀ (g : Hp) (X : Int), FR (Afr o) h g → ENr g o X → X = min E (if 8 ≤ own then 8 * f + 3 else 9999) → ∃ x h', j_X12_askingLine_39 o (J k) (J own) g = some (J x, h') ∧ RXx h h' o B L 1 f x (fun k g => ENr g o (min E (elQo B L own f k)) ∧ RDq g o (min E (elQo B L own f k)) (stpQ B L Q f k)) := fun g X F G hX => by
      have Fa : FR (Ard o) h g := F.mono (fun b k q => by unfold Afr at q; unfold Ard; omega)
      have Hg := H.ata Fa
      obtain ⟨g1, e1, F1, K1⟩ := (K.fr F (fun k hk => by unfold Afr; omega)).next Hg f0 (by omega)
      have F1' : FR (Ard o) g g1 := F1.mono (fun b k q => Ard_n q)
      have H1 := Hg.ata F1'
      have s1 : asI g1 (o + 10) (J 1) (J (-1)) = some (wE g1 (o + 10) 1 (-1)) := asI_ok H1.1.a19 (by omega) (by omega) (by omega)
      have F2 : FR (fun b _ => b = o + 10) g1 (wE g1 (o + 10) 1 (-1)) := FR.wE (A := fun b _ => b = o + 10) rfl
      have z1 : hE (wE g1 (o + 10) 1 (-1)) (o + 10) 1 = -1 := by rw [hE_wE (by omega) (by omega) (by omega) (by omega), if_pos ⟨rfl, rfl⟩]
      generalize wE g1 (o + 10) 1 (-1) = g2 at *
      have F2' : FR (Ard o) g1 g2 := F2.mono (fun b k q => by unfold Ard; omega)
      have H2 := H1.ata F2'
      have s2 : asI g2 (o + 10) (J 2) (J (-1)) = some (wE g2 (o + 10) 2 (-1)) := asI_ok H2.1.a19 (by omega) (by omega) (by omega)
      have F3 : FR (fun b k => b = o + 10 ∧ k = 2) g2 (wE g2 (o + 10) 2 (-1)) := FR.wE (A := fun b k => b = o + 10 ∧ k = 2) ⟨rfl, rfl⟩
      have z2 : hE (wE g2 (o + 10) 2 (-1)) (o + 10) 2 = -1 := by rw [hE_wE (by omega) (by omega) (by omega) (by omega), if_pos ⟨rfl, rfl⟩]
      generalize wE g2 (o + 10) 2 (-1) = g3 at *
      have F3' : FR (Ard o) g2 g3 := F3.mono (fun b k q => by unfold Ard; omega)
      have H3 := H2.ata F3'
      have K3 : RK g3 o B L (tkI B L f 1) := (K1.fr F2 (fun k hk => by omega)).fr F3 (fun k hk => by omega)
      have G3 : ENr g3 o X := ((G.frame F1 (by unfold ARk; omega) (by unfold ARk; omega)).frame F2 (by omega) (by omega)).frame F3 (by omega) (by omega)
      have up : ∀ j : Int, (j = 21 ∨ j = 22) → hE g3 o j = hE h o j := fun j hj => by
        rw [F3.e (by omega), F2.e (by omega), F1.e (by unfold ARk; omega), F.e (by unfold Afr; omega)]
      have F03 := ((Fa.trans F1').trans F2').trans F3'
      obtain ⟨x, g4, e4, RX⟩ := RK.readAsking (k := k) (own := own) K3 H3 G3 (by rw [up 22 (by omega), h22]) (by rw [up 21 (by omega), h21]) f0 fl k0.1 k7 or.1 or.2 (by rw [F3.e (by omega), z1]) z2
      have hd : j_X12_askingLine_39 o (J k) (J own) g = if ¬ J x = 0 then (l_X12_askingLine_73 o (J k) (J own) (fun hz5 => j_X12_askingLine_158 o (J own) hz5) (0 : Int32) g4) else some ((0 : Int32), g4) := by
        unfold j_X12_askingLine_39
        rw [rc_ok Hg.tag, e1, bs, H1.1.r19, bs, show (-1 : Int32) = J (-1) from rfl, show (1 : Int32) = J 1 from rfl, s1, bs, H2.1.r19, bs, show (2 : Int32) = J 2 from rfl, s2, bs, rc_ok H3.tag, e4, bs]
      rcases RX with ⟨x0, mi, F4, v⟩ | ⟨x1, mi, RL, w1, w2⟩
      · refine ⟨0, g4, ?_, Or.inl ⟨rfl, ?_, (F03.trans F4).mono (fun b k q => Or.inl q), ?_⟩⟩
        · rw [hd, x0]
          exact if_neg (fun q => q rfl)
        · unfold loF
          rw [if_neg hc, hk, if_neg kn, if_neg (fun q => mi q.1)]
        · unfold leF
          rw [if_neg hc, hk, if_neg kn]
          exact v
      · have W : LnW B L f k := ⟨⟨f0, by omega, hL⟩, ⟨k0.1, k0.2⟩, mi⟩
        have H4 := H3.ata RL.1
        have F04 := F03.trans RL.1
        have E4 := RL.2.2.1
        have eX : min X (min (min (e2n B L f k own) (e2w B L f k)) (if k = 0 then e3w B L f k 4 else 9999)) = min E (elQo B L own f k) := by
          rw [hX]
          unfold elQo
          generalize (if 8 ≤ own then 8 * f + 3 else 9999) = y
          generalize (if k = 0 then e3w B L f k 4 else 9999) = y2
          omega
        rw [eX] at E4
        have RL' : RLn g3 g4 o B L f k E own 1 (if k = 0 then e3w B L f k 4 else 9999) ∨ True := Or.inr trivial
        obtain ⟨g5, e5, F5, D5⟩ := RK.askTail (Q := Q) (own := own) (E := X) RL H4 W k7 or.1 or.2 w1 w2 (min X (elQo B L own f k)) (by
          have : min X (elQo B L own f k) = min E (elQo B L own f k) := by
            rw [hX]
            unfold elQo
            generalize (if 8 ≤ own then 8 * f + 3 else 9999) = y
            generalize (if k = 0 then e3w B L f k 4 else 9999) = y2
            omega
          rw [this]
          exact E4) (by omega) rfl ⟨by rw [F04.e (by unfold Ard; omega), hown]; exact or, fun q => by
          have hE9 : E = 9999 := by omega
          obtain ⟨d1, d2⟩ := D.2 hE9
          exact ⟨d1, by rw [← hown]; exact d2 0 (by omega) (by omega), fun i i0 i1 => by rw [F04.e (by unfold Ard; omega), d2 i i0 i1]⟩⟩
        have xx : min X (elQo B L own f k) = min E (elQo B L own f k) := by
          rw [hX]
          unfold elQo
          generalize (if 8 ≤ own then 8 * f + 3 else 9999) = y
          generalize (if k = 0 then e3w B L f k 4 else 9999) = y2
          omega
        rw [xx] at D5
        have en : enF B L f k = 1 + shL k + exF B L f k := by unfold enF; rw [if_pos mi]
        refine ⟨1, g5, ?_, Or.inr ⟨rfl, by omega, by rw [hk]; exact mi, (F04.mono (fun b k q => Or.inl q)).trans (F5.mono (fun b k q => Or.inr q)), ?_, by rw [hk]; exact ⟨E4.frame F5 (by omega) (by omega), D5⟩⟩⟩
        · rw [hd, x1]
          refine (if_pos ?_).trans e5
          decide
        · unfold leF
          rw [if_neg hc, hk, if_neg kn, en]
          exact RL.2.1.fr F5 (fun k hk => by omega)
    have hd : m_X12_askingLine o (ltF B L f) (J f) h = if ¬ J own = (8 : Int32) then j_X12_askingLine_39 o (J k) (J own) h else (rc h o 12 (m_X12_addsFault o (3 : Int32) (J f) h)).bind fun x4 => j_X12_askingLine_39 o (J k) (J own) x4 := by
      unfold m_X12_askingLine
      rw [rc_ok H.tag, cl, bs, if_pos (by rw [show (-1 : Int32) = J (-1) from rfl, J_eq (by omega) (by omega) (by omega) (by omega)]; exact kn), T.r18, bs, show (0 : Int32) = J 0 from rfl, t0, bs]
    by_cases c8 : own = 8
    · obtain ⟨g, n1, F1, E1⟩ := e.note H.tag (s' := 3) (p' := f) (by omega) (by omega) (by omega) (by omega)
      obtain ⟨x, h', a1, a2⟩ := rest g _ F1 E1 (by rw [if_pos (by omega)])
      refine ⟨x, h', ?_, a2⟩
      rw [hd, if_neg (by rw [c8]; exact fun q => q rfl), rc_ok H.tag, show (3 : Int32) = J 3 from rfl, n1, bs]
      exact a1
    · obtain ⟨x, h', a1, a2⟩ := rest h _ (FR.refl _ _) e (by rw [if_neg (by omega)]; omega)
      refine ⟨x, h', ?_, a2⟩
      rw [hd, if_pos (by rw [show (8 : Int32) = J 8 from rfl, J_eq (by omega) (by omega) (by omega) (by omega)]; exact c8)]
      exact a1
end RQm
