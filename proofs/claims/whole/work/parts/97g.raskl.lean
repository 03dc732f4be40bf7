/-! PURE PART: a line of questions, of a hunt, the reference -/
def elQo (B : Int → Int) (L own f k : Int) : Int := min (min (e2n B L f k own) (e2w B L f k)) (min (if 8 ≤ own then 8 * f + 3 else 9999) (if k = 0 then e3w B L f k 4 else 9999))
def elUo (B : Int → Int) (L own f k : Int) : Int := min (min (e2n B L f k 0) (e2w B L f k)) (if 8 ≤ own then 8 * f + 3 else 9999)
/-- the reference's row as far as questions (facts) are told, E the fault so far -/
def RDq (h : Hp) (o : Nat) (E : Int) (Q : Int → Int) : Prop := (0 ≤ hE h (o + 9) 0 ∧ hE h (o + 9) 0 ≤ 8) ∧ (E = 9999 → QW Q ∧ ∀ i, 0 ≤ i → i < 57 → hE h (o + 9) i = Q i)
def RDu (h : Hp) (o : Nat) (E : Int) (U : Int → Int) : Prop := (0 ≤ hE h (o + 9) 0 ∧ hE h (o + 9) 0 ≤ 8) ∧ (E = 9999 → HWf U ∧ ∀ i, 0 ≤ i → i < 25 → hE h (o + 9) i = U i)
section RQl
variable {h h0 : Hp} {o : Nat} {B : Int → Int} {L f k E own : Int} {Q U : Int → Int}
theorem RK.askTail (RL : RLn h0 h o B L f k E own 1 (if k = 0 then e3w B L f k 4 else 9999)) (H : RP h o B L) (W : LnW B L f k) (k7 : k ≤ 7) (o0 : 0 ≤ own) (o8 : own ≤ 8) (q1 : hE h (o + 10) 1 = qaF B L f k) (q2 : hE h (o + 10) 2 = qbF B L f k) (X : Int) (eX : ENr h o X) (eE : E ≤ 9999) (hX : X = min E (elQo B L own f k)) (D : (0 ≤ hE h (o + 9) 0 ∧ hE h (o + 9) 0 ≤ 8) ∧ (E = 9999 → QW Q ∧ own = Q 0 ∧ ∀ i, 0 ≤ i → i < 57 → hE h (o + 9) i = Q i)) : ∃ h', l_X12_askingLine_73 o (J k) (J own) (fun hz5 => j_X12_askingLine_158 o (J own) hz5) (J 0) h = some (J 1, h') ∧ FR (fun b _ => b = o + 9) h h' ∧ RDq h' o X (stpQ B L Q f k) := by
  have k0 := W.2.1.1
  have T := H.1
  have e9 := eX.le
  have hL := H.2.1.2.1
  have qar : -2147483648 ≤ qaF B L f k ∧ qaF B L f k < 2147483648 := by rw [← q1]; exact hE_rg _ _ _
  have qbr : -2147483648 ≤ qbF B L f k ∧ qbF B L f k < 2147483648 := by rw [← q2]; exact hE_rg _ _ _
  have ex := ex_spec (B := B) (k := k) W.1.2.2 W.1.1 W.1.2.1
  have kr := kk_rg k
  have nw0 : 0 ≤ nwF B L f k ∧ nwF B L f k ≤ 700 := by unfold nwF; omega
  obtain ⟨r1, r2, r3, r4, r5, r6, r7⟩ := RL
  -- the cells
  have cell : ∀ i : Int, 0 ≤ i → i < 7 → ∃ z, (-2147483648 ≤ z ∧ z < 2147483648) ∧ (i = 0 → z = k) ∧ (i = 1 → z = qaF B L f k) ∧ (i = 2 → z = qbF B L f k) ∧ (3 ≤ i → nwF B L f k ≤ i - 3 → z = 0) ∧ (3 ≤ i → i - 3 < nwF B L f k → lgB B L f k (i - 3) = false → z = wnL B L f k (i - 3)) ∧ ∀ g, FR (fun b _ => b = o + 9) h g → ∀ (K158 : Hp → Option (Int32 × Hp)) (k_ : Int32 → Hp → Option (Int32 × Hp)), own < 8 → b_X12_askingLine_73 o (J k) (J own) K158 k_ (J i) g = j_X12_askingLine_151 o (J k) (J own) (J i) (o + 9) (J (1 + 7 * own + i)) (J z) g K158 k_ := fun i i0 i7 => by
    have tr : ∀ g, FR (fun b _ => b = o + 9) h g → TR (top g) o := fun g F => by rw [F.1]; exact T
    have f21 : ∀ g, FR (fun b _ => b = o + 9) h g → gfI g o 12 21 = some (J (nwF B L f k)) := fun g F => by rw [gfI_ok (tr g F).1]; exact congrArg (fun z => some (J z)) (by show hE g o 21 = _; rw [F.e (by omega), r5])
    by_cases c0 : i = 0
    · refine ⟨k, by omega, fun _ => rfl, fun q => by omega, fun q => by omega, fun q => by omega, fun q => by omega, fun g F K158 k_ u8 => ?_⟩
      rw [c0]
      simp (disch := omega) only [b_X12_askingLine_73, (tr g F).r18, lm8, lm2, lm1, l0, l1, l2, l3, l4, l5, l6, l7, l8, l9, l10, l11, l12, l13, l14, l15, l16, l17, l18, l19, l20, l21, l22, l23, l24, l25, l27, l31, l32, l40, l46, l48, l50, l57, l59, l63, l86, l96, l97, l100, l110, l114, l122, l127, l200, l255, l300, l319, l320, l340, l441, l456, l580, l600, l800, l886, l1206, l1526, J_add, J_sub, J_mul, J_neg, J_lt, J_le, J_eq, jT, jF, iT, iF, eT, eF, aT, aF, ite_true, ite_false, ite_not, bs]
    · by_cases c3 : 3 ≤ i
      · by_cases cw : nwF B L f k ≤ i - 3
        · refine ⟨0, by omega, fun q => by omega, fun q => by omega, fun q => by omega, fun _ _ => rfl, fun _ q => by omega, fun g F K158 k_ u8 => ?_⟩
          simp (disch := omega) only [b_X12_askingLine_73, (tr g F).r18, f21 g F, lm8, lm2, lm1, l0, l1, l2, l3, l4, l5, l6, l7, l8, l9, l10, l11, l12, l13, l14, l15, l16, l17, l18, l19, l20, l21, l22, l23, l24, l25, l27, l31, l32, l40, l46, l48, l50, l57, l59, l63, l86, l96, l97, l100, l110, l114, l122, l127, l200, l255, l300, l319, l320, l340, l441, l456, l580, l600, l800, l886, l1206, l1526, J_add, J_sub, J_mul, J_neg, J_lt, J_le, J_eq, jT, jF, iT, iF, eT, eF, aT, aF, ite_true, ite_false, ite_not, bs]
        · refine ⟨hE h (o + 11) (i - 3), hE_rg _ _ _, fun q => by omega, fun q => by omega, fun q => by omega, fun _ q => by omega, fun _ q jl => r7 _ (by omega) q jl, fun g F K158 k_ u8 => ?_⟩
          have e1 : alI g (o + 11) (J (i - 3)) = some (J (hE h (o + 11) (i - 3))) := by rw [alI_ok (tr g F).a20 (by omega) (by omega) (by omega), F.e (by omega)]
          simp (disch := omega) only [b_X12_askingLine_73, (tr g F).r18, (tr g F).r20, f21 g F, e1, lm8, lm2, lm1, l0, l1, l2, l3, l4, l5, l6, l7, l8, l9, l10, l11, l12, l13, l14, l15, l16, l17, l18, l19, l20, l21, l22, l23, l24, l25, l27, l31, l32, l40, l46, l48, l50, l57, l59, l63, l86, l96, l97, l100, l110, l114, l122, l127, l200, l255, l300, l319, l320, l340, l441, l456, l580, l600, l800, l886, l1206, l1526, J_add, J_sub, J_mul, J_neg, J_lt, J_le, J_eq, jT, jF, iT, iF, eT, eF, aT, aF, ite_true, ite_false, ite_not, bs]
      · have : i = 1 ∨ i = 2 := by omega
        rcases this with q | q
        · refine ⟨qaF B L f k, qar, fun q => by omega, fun _ => rfl, fun q => by omega, fun q => by omega, fun q => by omega, fun g F K158 k_ u8 => ?_⟩
          have e1 : alI g (o + 10) (J 1) = some (J (qaF B L f k)) := by rw [alI_ok (tr g F).a19 (by omega) (by omega) (by omega), F.e (by omega), q1]
          rw [q]
          simp (disch := omega) only [b_X12_askingLine_73, (tr g F).r18, (tr g F).r19, e1, lm8, lm2, lm1, l0, l1, l2, l3, l4, l5, l6, l7, l8, l9, l10, l11, l12, l13, l14, l15, l16, l17, l18, l19, l20, l21, l22, l23, l24, l25, l27, l31, l32, l40, l46, l48, l50, l57, l59, l63, l86, l96, l97, l100, l110, l114, l122, l127, l200, l255, l300, l319, l320, l340, l441, l456, l580, l600, l800, l886, l1206, l1526, J_add, J_sub, J_mul, J_neg, J_lt, J_le, J_eq, jT, jF, iT, iF, eT, eF, aT, aF, ite_true, ite_false, ite_not, bs]
        · refine ⟨qbF B L f k, qbr, fun q => by omega, fun q => by omega, fun _ => rfl, fun q => by omega, fun q => by omega, fun g F K158 k_ u8 => ?_⟩
          have e1 : alI g (o + 10) (J 2) = some (J (qbF B L f k)) := by rw [alI_ok (tr g F).a19 (by omega) (by omega) (by omega), F.e (by omega), q2]
          rw [q]
          simp (disch := omega) only [b_X12_askingLine_73, (tr g F).r18, (tr g F).r19, e1, lm8, lm2, lm1, l0, l1, l2, l3, l4, l5, l6, l7, l8, l9, l10, l11, l12, l13, l14, l15, l16, l17, l18, l19, l20, l21, l22, l23, l24, l25, l27, l31, l32, l40, l46, l48, l50, l57, l59, l63, l86, l96, l97, l100, l110, l114, l122, l127, l200, l255, l300, l319, l320, l340, l441, l456, l580, l600, l800, l886, l1206, l1526, J_add, J_sub, J_mul, J_neg, J_lt, J_le, J_eq, jT, jF, iT, iF, eT, eF, aT, aF, ite_true, ite_false, ite_not, bs]
  obtain ⟨zf, hz⟩ : ∃ zf : Int → Int, ∀ i : Int, 0 ≤ i → i < 7 → (-2147483648 ≤ zf i ∧ zf i < 2147483648) ∧ (i = 0 → zf i = k) ∧ (i = 1 → zf i = qaF B L f k) ∧ (i = 2 → zf i = qbF B L f k) ∧ (3 ≤ i → nwF B L f k ≤ i - 3 → zf i = 0) ∧ (3 ≤ i → i - 3 < nwF B L f k → lgB B L f k (i - 3) = false → zf i = wnL B L f k (i - 3)) ∧ ∀ g, FR (fun b _ => b = o + 9) h g → ∀ (K158 : Hp → Option (Int32 × Hp)) (k_ : Int32 → Hp → Option (Int32 × Hp)), own < 8 → b_X12_askingLine_73 o (J k) (J own) K158 k_ (J i) g = j_X12_askingLine_151 o (J k) (J own) (J i) (o + 9) (J (1 + 7 * own + i)) (J (zf i)) g K158 k_ := by
    have : ∀ i : Int, ∃ z : Int, (0 ≤ i → i < 7 → (-2147483648 ≤ z ∧ z < 2147483648) ∧ (i = 0 → z = k) ∧ (i = 1 → z = qaF B L f k) ∧ (i = 2 → z = qbF B L f k) ∧ (3 ≤ i → nwF B L f k ≤ i - 3 → z = 0) ∧ (3 ≤ i → i - 3 < nwF B L f k → lgB B L f k (i - 3) = false → z = wnL B L f k (i - 3)) ∧ ∀ g, FR (fun b _ => b = o + 9) h g → ∀ (K158 : Hp → Option (Int32 × Hp)) (k_ : Int32 → Hp → Option (Int32 × Hp)), own < 8 → b_X12_askingLine_73 o (J k) (J own) K158 k_ (J i) g = j_X12_askingLine_151 o (J k) (J own) (J i) (o + 9) (J (1 + 7 * own + i)) (J z) g K158 k_) := fun i => by
      by_cases c : 0 ≤ i ∧ i < 7
      · obtain ⟨z, hz⟩ := cell i c.1 c.2
        exact ⟨z, fun _ _ => hz⟩
      · exact ⟨0, fun a b => absurd ⟨a, b⟩ c⟩
    obtain ⟨zf, hz⟩ := Classical.axiomOfChoice this
    exact ⟨zf, hz⟩
  -- the loop
  obtain ⟨s, ⟨g, rfl, F, cn, co⟩, el⟩ := loop_ex (body := fun (k_ : Int32 × Hp → Option (Int32 × Hp)) (s : Int32 × Hp) => b_X12_askingLine_73 o (J k) (J own) (fun hz5 => j_X12_askingLine_158 o (J own) hz5) (fun v6q hq => k_ (v6q, hq)) s.1 s.2) (s := (J 0, h)) (fun i s => ∃ g, s = (J i, g) ∧ FR (fun b _ => b = o + 9) h g ∧ (∀ j, 0 ≤ j → j < i → hE g (o + 9) (1 + 7 * own + j) = zf j) ∧ (∀ c, 0 ≤ c → (c < 1 + 7 * own ∨ 1 + 7 * own + 7 ≤ c) → hE g (o + 9) c = hE h (o + 9) c)) (fun s => j_X12_askingLine_158 o (J own) s.2) (if own < 8 then 7 else 0) (by split <;> omega) (by split <;> omega) ⟨h, rfl, FR.refl _ _, fun j j0 j1 => by omega, fun c _ _ => rfl⟩ (by
    rintro k_ i s i0 i1 ⟨g, rfl, F, cn, co⟩
    have u8 : own < 8 := by
      by_cases q : own < 8
      · exact q
      · rw [if_neg q] at i1
        omega
    rw [if_pos u8] at i1
    obtain ⟨z1, z2⟩ := hz i i0 i1
    have st := z2.2.2.2.2.2 g F (fun hz5 => j_X12_askingLine_158 o (J own) hz5) (fun v6q hq => k_ (v6q, hq)) u8
    have tr : TR (top g) o := by rw [F.1]; exact T
    have s1 : asI g (o + 9) (J (1 + 7 * own + i)) (J (zf i)) = some (wE g (o + 9) (1 + 7 * own + i) (zf i)) := asI_ok tr.a18 (by omega) (by omega) (by omega)
    have F1 : FR (fun b _ => b = o + 9) g (wE g (o + 9) (1 + 7 * own + i) (zf i)) := FR.wE (A := fun b _ => b = o + 9) rfl
    refine ⟨(J (i + 1), wE g (o + 9) (1 + 7 * own + i) (zf i)), ⟨_, rfl, F.trans F1, fun j j0 j1 => ?_, fun c c0 c1 => ?_⟩, ?_⟩
    · rw [hE_wE (by omega) (by omega) z1.1 z1.2]
      by_cases q : j = i
      · rw [if_pos ⟨rfl, by omega⟩, q]
      · rw [if_neg (by omega), cn j j0 (by omega)]
    · rw [hE_wE (by omega) c0 z1.1 z1.2, if_neg (by omega), co c c0 c1]
    · show b_X12_askingLine_73 o (J k) (J own) (fun hz5 => j_X12_askingLine_158 o (J own) hz5) (fun v6q hq => k_ (v6q, hq)) (J i) g = _
      rw [st]
      unfold j_X12_askingLine_151
      rw [s1, bs, show (1 : Int32) = J 1 from rfl, J_add]) (by
    rintro k_ s ⟨g, rfl, F, -⟩
    show b_X12_askingLine_73 o (J k) (J own) (fun hz5 => j_X12_askingLine_158 o (J own) hz5) (fun v6q hq => k_ (v6q, hq)) (J (if own < 8 then 7 else 0)) g = _
    by_cases q : own < 8
    · rw [if_pos q]
      simp (disch := omega) only [b_X12_askingLine_73, lm8, lm2, lm1, l0, l1, l2, l3, l4, l5, l6, l7, l8, l9, l10, l11, l12, l13, l14, l15, l16, l17, l18, l19, l20, l21, l22, l23, l24, l25, l27, l31, l32, l40, l46, l48, l50, l57, l59, l63, l86, l96, l97, l100, l110, l114, l122, l127, l200, l255, l300, l319, l320, l340, l441, l456, l580, l600, l800, l886, l1206, l1526, J_add, J_sub, J_mul, J_neg, J_lt, J_le, J_eq, jT, jF, iT, iF, eT, eF, aT, aF, ite_true, ite_false, ite_not, bs]
    · rw [if_neg q]
      simp (disch := omega) only [b_X12_askingLine_73, lm8, lm2, lm1, l0, l1, l2, l3, l4, l5, l6, l7, l8, l9, l10, l11, l12, l13, l14, l15, l16, l17, l18, l19, l20, l21, l22, l23, l24, l25, l27, l31, l32, l40, l46, l48, l50, l57, l59, l63, l86, l96, l97, l100, l110, l114, l122, l127, l200, l255, l300, l319, l320, l340, l441, l456, l580, l600, l800, l886, l1206, l1526, J_add, J_sub, J_mul, J_neg, J_lt, J_le, J_eq, jT, jF, iT, iF, eT, eF, aT, aF, ite_true, ite_false, ite_not, bs])
  have tr : TR (top g) o := by rw [F.1]; exact T
  have s1 : asI g (o + 9) (J 0) (J (min 8 (own + 1))) = some (wE g (o + 9) 0 (min 8 (own + 1))) := asI_ok tr.a18 (by omega) (by omega) (by omega)
  have F1 : FR (fun b _ => b = o + 9) g (wE g (o + 9) 0 (min 8 (own + 1))) := FR.wE (A := fun b _ => b = o + 9) rfl
  have ls : m_X12_lesser (J 8) (J (own + 1)) g = some (J (min 8 (own + 1))) := X12_lesser_ok (by omega) (by omega) (by omega) (by omega)
  have c0 : ∀ c, 0 ≤ c → hE (wE g (o + 9) 0 (min 8 (own + 1))) (o + 9) c = if c = 0 then min 8 (own + 1) else hE g (o + 9) c := fun c hc => by
    rw [hE_wE (by omega) hc (by omega) (by omega)]
    by_cases q : c = 0
    · rw [if_pos ⟨rfl, q⟩, if_pos q]
    · rw [if_neg (fun y => q y.2), if_neg q]
  have e5 : l_X12_askingLine_73 o (J k) (J own) (fun hz5 => j_X12_askingLine_158 o (J own) hz5) (J 0) h = j_X12_askingLine_158 o (J own) g := el
  refine ⟨_, ?_, F.trans F1, ?_, fun hE9 => ?_⟩
  · rw [e5]
    simp (disch := omega) only [j_X12_askingLine_158, tr.r18, ls, s1, lm8, lm2, lm1, l0, l1, l2, l3, l4, l5, l6, l7, l8, l9, l10, l11, l12, l13, l14, l15, l16, l17, l18, l19, l20, l21, l22, l23, l24, l25, l27, l31, l32, l40, l46, l48, l50, l57, l59, l63, l86, l96, l97, l100, l110, l114, l122, l127, l200, l255, l300, l319, l320, l340, l441, l456, l580, l600, l800, l886, l1206, l1526, J_add, J_sub, J_mul, J_neg, J_lt, J_le, J_eq, jT, jF, iT, iF, eT, eF, aT, aF, ite_true, ite_false, ite_not, bs]
  · rw [c0 0 (by omega), if_pos rfl]
    omega
  · have xl : min E (elQo B L own f k) = 9999 := by rw [← hX]; exact hE9
    have lq : elQo B L own f k ≤ 9999 := by
      have : e2n B L f k own ≤ 9999 := bnU_le
      unfold elQo
      omega
    obtain ⟨wq, oq, cq⟩ := D.2 (by omega)
    have GQ : GoodQ B L Q f k := elQ_ok W (by
      have : elQ B L Q f k = elQo B L own f k := by rw [oq]; rfl
      rw [this]
      omega)
    refine ⟨GQ.wf W wq k7, fun i i0 i1 => ?_⟩
    have g8 := GQ.2.2.1
    have q0 := wq.1
    rw [if_pos (show own < 8 by omega)] at cn
    rw [c0 i i0]
    unfold stpQ
    by_cases y0 : i = 0
    · rw [if_pos y0, if_pos y0]
      omega
    · rw [if_neg y0, if_neg y0]
      by_cases y1 : i = 1 + 7 * Q 0
      · rw [if_pos y1]
        have := cn 0 (by omega) (by omega)
        rw [show 1 + 7 * own + 0 = i by omega] at this
        rw [this, (hz 0 (by omega) (by omega)).2.1 rfl]
      · rw [if_neg y1]
        by_cases y2 : i = 1 + 7 * Q 0 + 1
        · rw [if_pos y2]
          have := cn 1 (by omega) (by omega)
          rw [show 1 + 7 * own + 1 = i by omega] at this
          rw [this, (hz 1 (by omega) (by omega)).2.2.1 rfl]
        · rw [if_neg y2]
          by_cases y3 : i = 1 + 7 * Q 0 + 2
          · rw [if_pos y3]
            have := cn 2 (by omega) (by omega)
            rw [show 1 + 7 * own + 2 = i by omega] at this
            rw [this, (hz 2 (by omega) (by omega)).2.2.2.1 rfl]
          · rw [if_neg y3]
            by_cases y4 : 1 + 7 * Q 0 + 3 ≤ i ∧ i < 1 + 7 * Q 0 + 7
            · rw [if_pos y4]
              have := cn (i - (1 + 7 * Q 0)) (by omega) (by omega)
              rw [show 1 + 7 * own + (i - (1 + 7 * Q 0)) = i by omega] at this
              rw [this]
              obtain ⟨_, _, _, _, z5, z6, _⟩ := hz (i - (1 + 7 * Q 0)) (by omega) (by omega)
              rw [show i - (1 + 7 * Q 0 + 3) = i - (1 + 7 * Q 0) - 3 by omega]
              by_cases y5 : i - (1 + 7 * Q 0) - 3 < nwF B L f k
              · rw [if_pos y5, z6 (by omega) y5 (W.ok GQ.2.1 (by omega) y5).2.2]
              · rw [if_neg y5, z5 (by omega) (by omega)]
            · rw [if_neg y4, co i i0 (by omega), cq i i0 i1]
end RQl
