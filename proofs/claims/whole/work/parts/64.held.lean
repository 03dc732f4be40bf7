/-! PURE PART: in which versions questions hold, both sides -/
theorem not_tab : ∀ n, n < 11 → ∀ a, a < 2 ^ n → Int32.ofInt ((2 ^ n - 1 : Nat)) &&& (Int32.ofInt (a : Nat) ^^^ (-1 : Int32)) = Int32.ofInt ((setN n (fun v => !bt a v) : Nat)) := by decide +kernel
theorem ever_tab : ∀ n, n < 11 → ∀ a, a < 2 ^ n → Int32.ofInt ((2 ^ n - 1 : Nat)) &&& (-(Int32.ofInt (a : Nat) &&& (-(Int32.ofInt (a : Nat))))) = Int32.ofInt ((setN n (fun v => anyZ (v + 1) (fun u => bt a u)) : Nat)) := by decide +kernel
theorem new_tab : ∀ n, n < 11 → ∀ a, a < 2 ^ n → Int32.ofInt (a : Nat) &&& ((ishlF (Int32.ofInt (a : Nat)) 1) ^^^ (-1 : Int32)) = Int32.ofInt ((setN n (fun v => bt a v && !bt a (v - 1)) : Nat)) := by decide +kernel
theorem ever_low : ∀ v : Nat, v < 10 → ∀ a, a < 1024 → decide (a % 2 ^ (v + 1) = 0) = !anyZ ((v : Int) + 1) (fun u => bt a u) := by decide +kernel
theorem nx_or2 (a b : Nat) : J (a : Int) ||| J (b : Int) = J ((a ||| b : Nat) : Int) := by
  rw [J_nI, J_nI, J_nI]
  apply Int32.toBitVec_inj.mp
  rw [Int32.toBitVec_or]
  show BitVec.ofNat 32 a ||| BitVec.ofNat 32 b = BitVec.ofNat 32 (a ||| b)
  apply BitVec.eq_of_toNat_eq
  rw [BitVec.toNat_or, BitVec.toNat_ofNat, BitVec.toNat_ofNat, BitVec.toNat_ofNat, ← Nat.or_mod_two_pow]
theorem bt_and (a b : Nat) (v : Int) : bt (a &&& b) v = (bt a v && bt b v) := by
  unfold bt
  rw [Nat.testBit_and]
  cases decide (0 ≤ v) <;> simp
theorem bt_or (a b : Nat) (v : Int) : bt (a ||| b) v = (bt a v || bt b v) := by
  unfold bt
  rw [Nat.testBit_or]
  cases decide (0 ≤ v) <;> simp
theorem setN_of {n a : Nat} (h : a < 2 ^ n) : setN n (fun v => bt a v) = a := by
  refine Nat.eq_of_testBit_eq (fun i => ?_)
  rw [setN_bit]
  unfold bt
  rw [decide_eq_true (show (0 : Int) ≤ (i : Int) by omega), Bool.true_and]
  by_cases hi : i < n
  · rw [decide_eq_true hi, Bool.true_and]
    rfl
  · rw [decide_eq_false hi, Bool.false_and]
    exact (Nat.testBit_lt_two_pow (Nat.lt_of_lt_of_le h (Nat.pow_le_pow_right (by decide) (by omega)))).symm
theorem setN_and {n a b : Nat} (ha : a < 2 ^ n) : setN n (fun v => bt a v && bt b v) = a &&& b := by
  have h : a &&& b < 2 ^ n := Nat.lt_of_le_of_lt Nat.and_le_left ha
  have e := setN_of h
  rw [show (fun v => bt (a &&& b) v) = (fun v => bt a v && bt b v) from funext (fun v => bt_and a b v)] at e
  exact e
theorem setN_or {n a b : Nat} (ha : a < 2 ^ n) (hb : b < 2 ^ n) : setN n (fun v => bt a v || bt b v) = a ||| b := by
  have e := setN_of (Nat.or_lt_two_pow ha hb)
  rw [show (fun v => bt (a ||| b) v) = (fun v => bt a v || bt b v) from funext (fun v => bt_or a b v)] at e
  exact e
theorem setN_congr {n : Nat} {f g : Int → Bool} (h : ∀ v : Int, 0 ≤ v → v < n → f v = g v) : setN n f = setN n g := by
  induction n with
  | zero => rfl
  | succ n ih =>
    show setN n f ||| (if f n = true then 2 ^ n else 0) = setN n g ||| (if g n = true then 2 ^ n else 0)
    rw [ih (fun v h0 h1 => h v h0 (by omega)), h n (by omega) (by omega)]
/-- whether a question holds, by the lesser ones -/
def hoB (T Q : Int → Int) (H : Int → Int → Nat) (k d v : Int) : Bool := if qkT Q k = 0 then decide (0 < beT T Q k d v) else if qkT Q k = 1 then neB T Q k d v else if qkT Q k = 2 then decide (qaT Q k ≤ tiT T d v (qwT Q k 0)) else if qkT Q k = 3 then !bt (H (qaT Q k) d) v else if qkT Q k = 4 then anyZ (v + 1) (fun u => bt (H (qaT Q k) d) u) else if qkT Q k = 5 then bt (H (qaT Q k) d) v && !bt (H (qaT Q k) d) (v - 1) else if qkT Q k = 6 then bt (H (qaT Q k) d) v && bt (H (qbT Q k) d) v else bt (H (qaT Q k) d) v || bt (H (qbT Q k) d) v
def HEn (T Q : Int → Int) : Nat → Int → Int → Nat
  | 0 => fun _ _ => 0
  | n + 1 => fun k d => if k = n then setN (T (1 + d)).toNat (fun v => hoB T Q (HEn T Q n) n d v) else HEn T Q n k d
def HE (T Q : Int → Int) (k d : Int) : Nat := HEn T Q (k.toNat + 1) k d
section HD
variable {h : Hp} {o g : Nat} {T Q : Int → Int}
theorem HEn_st {k d : Int} (k0 : 0 ≤ k) : ∀ n : Nat, k < n → HEn T Q n k d = HE T Q k d := by
  intro n
  induction n with
  | zero => intro hk; omega
  | succ n ih =>
    intro hk
    by_cases hkn : k = n
    · unfold HE
      rw [show k.toNat = n by omega]
    · show (if k = n then _ else HEn T Q n k d) = _
      rw [if_neg hkn]
      exact ih (by omega)
theorem hoB_congr (W : QW Q) {H H' : Int → Int → Nat} {k d v : Int} (k0 : 0 ≤ k) (k1 : k < Q 0) (e : ∀ a, 0 ≤ a → a < k → H a d = H' a d) : hoB T Q H k d v = hoB T Q H' k d v := by
  have hq := W.2 k k0 k1
  unfold hoB
  by_cases c0 : qkT Q k = 0
  · rw [if_pos c0, if_pos c0]
  · by_cases c1 : qkT Q k = 1
    · rw [if_neg c0, if_pos c1, if_neg c0, if_pos c1]
    · by_cases c2 : qkT Q k = 2
      · rw [if_neg c0, if_neg c1, if_pos c2, if_neg c0, if_neg c1, if_pos c2]
      · have ha := hq.2.2.2.1 (by omega)
        rw [e _ ha.1 ha.2]
        by_cases c6 : 6 ≤ qkT Q k
        · have hb := hq.2.2.2.2.2.1 c6
          rw [e _ hb.1 hb.2]
        · rw [if_neg c0, if_neg c1, if_neg c2, if_neg c0, if_neg c1, if_neg c2]
          by_cases c3 : qkT Q k = 3
          · rw [if_pos c3, if_pos c3]
          · by_cases c4 : qkT Q k = 4
            · rw [if_neg c3, if_pos c4, if_neg c3, if_pos c4]
            · rw [if_neg c3, if_neg c4, if_pos (by omega), if_neg c3, if_neg c4, if_pos (by omega)]
theorem HE_eq (W : QW Q) {k d : Int} (k0 : 0 ≤ k) (k1 : k < Q 0) : HE T Q k d = setN (T (1 + d)).toNat (fun v => hoB T Q (HE T Q) k d v) := by
  have hk : ((k.toNat : Nat) : Int) = k := Int.toNat_of_nonneg k0
  show (if k = (k.toNat : Int) then setN (T (1 + d)).toNat (fun v => hoB T Q (HEn T Q k.toNat) (k.toNat : Int) d v) else _) = _
  rw [if_pos hk.symm, hk]
  exact setN_congr (fun v _ _ => hoB_congr W k0 k1 (fun a a0 a1 => HEn_st a0 k.toNat (by omega)))
theorem HE_lt2 (W : QW Q) {k d : Int} (k0 : 0 ≤ k) (k1 : k < Q 0) : HE T Q k d < 2 ^ (T (1 + d)).toNat := by
  rw [HE_eq W k0 k1]
  exact setN_lt _ _
theorem HE_lt (A : AW T) (W : QW Q) {k d : Int} (k0 : 0 ≤ k) (k1 : k < Q 0) (d0 : 0 ≤ d) (d1 : d < 4) : HE T Q k d < 1024 := by
  have := A.nv d0 d1
  exact Nat.lt_of_lt_of_le (HE_lt2 W k0 k1) (show 2 ^ (T (1 + d)).toNat ≤ 2 ^ 10 from Nat.pow_le_pow_right (by decide) (by omega))
def TS8 (t : Tp) (x : Nat) : Prop := t.1 x = 8 ∧ t.2.2 x 0 = x + 1 ∧ TI t (x + 1) 32
def ASe (x b k : Nat) : Prop := b = x + 1
theorem CA.frS {h' : Hp} {x : Nat} (H : CA h o T) (hx : x + 1 < o ∨ o + 9 < x + 1) (F : FR (ASe x) h h') : CA h' o T := by
  refine H.frame F ?_ ?_ (fun k => ?_) (fun k => ?_) (fun k => ?_) (fun k => ?_) (fun k => ?_) (fun k => ?_) <;> · unfold ASe; omega
theorem QA.frame {A : Nat → Nat → Prop} {h' : Hp} (G : QA h g Q) (F : FR A h h') (n0 : ¬ A g 0) (n1 : ∀ k, ¬ A (g + 1) k) (n2 : ∀ k, ¬ A (g + 2) k) (n3 : ∀ k, ¬ A (g + 3) k) (n4 : ∀ k, ¬ A (g + 4) k) : QA h' g Q := by
  obtain ⟨g1, g2, g3, g4⟩ := G
  refine ⟨by rw [F.1]; exact g1, g2, ?_, fun k k0 k1 => ?_⟩
  · rw [F.e n0, g3]
  · have := g4 k k0 k1
    rw [F.e (n1 _), F.e (n2 _), F.e (n2 _), F.e (n3 _)]
    exact ⟨this.1, this.2.1, this.2.2.1, this.2.2.2.1, fun i i0 i1 => by rw [F.e (n4 _)]; exact this.2.2.2.2 i i0 i1⟩
theorem QA.frS {h' : Hp} {x : Nat} (G : QA h g Q) (hx : x + 1 < g ∨ g + 4 < x + 1) (F : FR (ASe x) h h') : QA h' g Q := by
  refine G.frame F ?_ (fun k => ?_) (fun k => ?_) (fun k => ?_) (fun k => ?_) <;> · unfold ASe; omega
theorem X8_held_at {x : Nat} {a d : Int} (X : TS8 (top h) x) (h1 : -2147483648 ≤ a * 4 + d) (h2 : a * 4 + d < 2147483648) : m_X8_held x (J a) (J d) h = some (J (atE h (x + 1) 32 (a * 4 + d))) := by
  have e := X5_at_ok (h := h) (i := a * 4 + d) X.2.2 (by omega) h1 h2
  simp only [m_X8_held, gfR_ok (h := h) (t := 8) (k := 0) X.1 X.2.1, e, lm8, lm2, lm1, l0, l1, l2, l3, l4, l5, l6, l7, l8, l9, l10, l11, l12, l13, l14, l15, l16, l17, l18, l19, l20, l21, l22, l23, l24, l25, l27, l31, l32, l40, l46, l48, l50, l57, l59, l63, l86, l96, l97, l100, l110, l114, l122, l127, l200, l255, l300, l319, l320, l340, l441, l456, l580, l600, l800, l886, l1206, l1526, J_add, J_sub, J_mul, J_neg, J_lt, J_le, J_eq, jT, jF, iT, iF, eT, eF, aT, aF, ite_true, ite_false, ite_not, bs]
theorem CA.lookAtWords (H : CA h o T) (G : QA h g Q) {x : Nat} (X : TS8 (top h) x) {k d : Int} (k0 : 0 ≤ k) (k1 : k < Q 0) (hk : qkT Q k ≤ 2) (d0 : 0 ≤ d) (d1 : d < T 0) : m_X8_lookAtWords x o g (J k) (J d) h = some (J (HE T Q k d : Nat)) := by
  have hn0 := H.wf.n0
  have hn := H.wf.nv d0 (by omega)
  have hq := G.2.1.2 k k0 k1
  rw [HE_eq G.2.1 k0 k1]
  unfold m_X8_lookAtWords
  rw [rc_ok G.tag, G.kindOf k0 k1, bs]
  unfold l_X8_lookAtWords_13
  have e82 : ∀ (b : Bool) (m : Nat) (i : Int) (k_ : Int32 → Int32 → Option Int32) (kk : Int32), 0 ≤ i → i < 10 → j_X8_lookAtWords_82 x o g (J k) (J d) kk (J (m : Nat)) (J i) (J (b01 b)) h k_ = k_ (bif b then J (m : Nat) ||| ishlF (J 1) (J i) else J (m : Nat)) (J (i + 1)) := by
    intro b m i k_ kk i0 i1
    cases b
    · simp only [j_X8_lookAtWords_82, j_X8_lookAtWords_99, lm8, lm2, lm1, l0, l1, l2, l3, l4, l5, l6, l7, l8, l9, l10, l11, l12, l13, l14, l15, l16, l17, l18, l19, l20, l21, l22, l23, l24, l25, l27, l31, l32, l40, l46, l48, l50, l57, l59, l63, l86, l96, l97, l100, l110, l114, l122, l127, l200, l255, l300, l319, l320, l340, l441, l456, l580, l600, l800, l886, l1206, l1526, J_add, J_sub, J_mul, J_neg, J_lt, J_le, J_eq, jT, jF, iT, iF, eT, eF, aT, aF, ite_true, ite_false, ite_not, bs, bI, cond_false, J_or0]
    · simp only [j_X8_lookAtWords_82, j_X8_lookAtWords_99, lm8, lm2, lm1, l0, l1, l2, l3, l4, l5, l6, l7, l8, l9, l10, l11, l12, l13, l14, l15, l16, l17, l18, l19, l20, l21, l22, l23, l24, l25, l27, l31, l32, l40, l46, l48, l50, l57, l59, l63, l86, l96, l97, l100, l110, l114, l122, l127, l200, l255, l300, l319, l320, l340, l441, l456, l580, l600, l800, l886, l1206, l1526, J_add, J_sub, J_mul, J_neg, J_lt, J_le, J_eq, jT, jF, iT, iF, eT, eF, aT, aF, ite_true, ite_false, ite_not, bs, bI, cond_true]
  have eset : ∀ (i : Int), 0 ≤ i → i < 10 → (bif hoB T Q (HE T Q) k d i then J (setN i.toNat (fun v => hoB T Q (HE T Q) k d v) : Nat) ||| ishlF (J 1) (J i) else J (setN i.toNat (fun v => hoB T Q (HE T Q) k d v) : Nat)) = J (setN (i + 1).toNat (fun v => hoB T Q (HE T Q) k d v) : Nat) := by
    intro i i0 i1
    have hi : ((i.toNat : Nat) : Int) = i := Int.toNat_of_nonneg i0
    rw [show (i + 1).toNat = i.toNat + 1 by omega]
    cases hh : hoB T Q (HE T Q) k d i
    · rw [cond_false, setN_F (by rw [hi]; exact hh)]
    · rw [cond_true]
      have := setN_T (i := i.toNat) (f := fun v => hoB T Q (HE T Q) k d v) (by omega) (by rw [hi]; exact hh)
      rw [hi] at this
      exact this
  refine loop_int (fun i => (J (setN i.toNat (fun v => hoB T Q (HE T Q) k d v) : Nat), J i)) (T (1 + d)) hn.1 (by omega) rfl (fun k_ i hi hi2 => ?_) (fun k_ => ?_)
  · have hv : vvT T d i := ⟨d0, d1, hi, hi2⟩
    have es := eset i hi (by omega)
    have e8 := fun b m k_ kk => e82 b m i k_ kk hi (by omega)
    have hc : qkT Q k = 0 ∨ qkT Q k = 1 ∨ qkT Q k = 2 := by omega
    rcases hc with c | c | c
    · have eh : hoB T Q (HE T Q) k d i = decide (0 < beT T Q k d i) := by unfold hoB; rw [if_pos c]
      have ei : (if beT T Q k d i ≤ 0 then J 0 else J 1) = J (b01 (hoB T Q (HE T Q) k d i)) := by
        rw [eh, ib01]
        congr 2
        by_cases z : beT T Q k d i ≤ 0
        · rw [decide_eq_true z, decide_eq_false (by omega)]
          rfl
        · rw [decide_eq_false z, decide_eq_true (by omega)]
          rfl
      have hbr := beT_rg H.wf hv (Q := Q) (k := k)
      simp (disch := omega) only [b_X8_lookAtWords_13, rc_ok H.tag, rc_ok X.1, H.versionsOf, H.beginnings G k0 k1 c hv, ei, e8, es, c, lm8, lm2, lm1, l0, l1, l2, l3, l4, l5, l6, l7, l8, l9, l10, l11, l12, l13, l14, l15, l16, l17, l18, l19, l20, l21, l22, l23, l24, l25, l27, l31, l32, l40, l46, l48, l50, l57, l59, l63, l86, l96, l97, l100, l110, l114, l122, l127, l200, l255, l300, l319, l320, l340, l441, l456, l580, l600, l800, l886, l1206, l1526, J_add, J_sub, J_mul, J_neg, J_lt, J_le, J_eq, jT, jF, iT, iF, eT, eF, aT, aF, ite_true, ite_false, ite_not, bs]
    · have eh : hoB T Q (HE T Q) k d i = neB T Q k d i := by unfold hoB; rw [if_neg (by omega), if_pos c]
      have e9 := H.areNear G (x := x) k0 k1 c hv
      rw [← eh] at e9
      simp (disch := omega) only [b_X8_lookAtWords_13, rc_ok H.tag, rc_ok X.1, H.versionsOf, e9, e8, es, c, lm8, lm2, lm1, l0, l1, l2, l3, l4, l5, l6, l7, l8, l9, l10, l11, l12, l13, l14, l15, l16, l17, l18, l19, l20, l21, l22, l23, l24, l25, l27, l31, l32, l40, l46, l48, l50, l57, l59, l63, l86, l96, l97, l100, l110, l114, l122, l127, l200, l255, l300, l319, l320, l340, l441, l456, l580, l600, l800, l886, l1206, l1526, J_add, J_sub, J_mul, J_neg, J_lt, J_le, J_eq, jT, jF, iT, iF, eT, eF, aT, aF, ite_true, ite_false, ite_not, bs]
    · have eh : hoB T Q (HE T Q) k d i = decide (qaT Q k ≤ tiT T d i (qwT Q k 0)) := by unfold hoB; rw [if_neg (by omega), if_neg (by omega), if_pos c]
      have e9 := H.areMany G (x := x) k0 k1 c hv
      rw [← eh] at e9
      simp (disch := omega) only [b_X8_lookAtWords_13, rc_ok H.tag, rc_ok X.1, H.versionsOf, e9, e8, es, c, lm8, lm2, lm1, l0, l1, l2, l3, l4, l5, l6, l7, l8, l9, l10, l11, l12, l13, l14, l15, l16, l17, l18, l19, l20, l21, l22, l23, l24, l25, l27, l31, l32, l40, l46, l48, l50, l57, l59, l63, l86, l96, l97, l100, l110, l114, l122, l127, l200, l255, l300, l319, l320, l340, l441, l456, l580, l600, l800, l886, l1206, l1526, J_add, J_sub, J_mul, J_neg, J_lt, J_le, J_eq, jT, jF, iT, iF, eT, eF, aT, aF, ite_true, ite_false, ite_not, bs]
  · simp (disch := omega) only [b_X8_lookAtWords_13, rc_ok H.tag, H.versionsOf, lm8, lm2, lm1, l0, l1, l2, l3, l4, l5, l6, l7, l8, l9, l10, l11, l12, l13, l14, l15, l16, l17, l18, l19, l20, l21, l22, l23, l24, l25, l27, l31, l32, l40, l46, l48, l50, l57, l59, l63, l86, l96, l97, l100, l110, l114, l122, l127, l200, l255, l300, l319, l320, l340, l441, l456, l580, l600, l800, l886, l1206, l1526, J_add, J_sub, J_mul, J_neg, J_lt, J_le, J_eq, jT, jF, iT, iF, eT, eF, aT, aF, ite_true, ite_false, ite_not, bs]
theorem CA.lookIn (H : CA h o T) (G : QA h g Q) {x : Nat} (X : TS8 (top h) x) {k d : Int} (k0 : 0 ≤ k) (k1 : k < Q 0) (d0 : 0 ≤ d) (d1 : d < T 0) (C : ∀ a, 0 ≤ a → a < k → hE h (x + 1) (a * 4 + d) = HE T Q a d) : m_X8_lookIn x o g (J k) (J d) h = some (J (HE T Q k d : Nat)) := by
  have hn0 := H.wf.n0
  have hn := H.wf.nv d0 (by omega)
  have hq := G.2.1.2 k k0 k1
  have hsz := G.2.1.1
  have hna := G.2.1.na k0 k1
  have hnb := G.2.1.nb k0 k1
  have ea := X8_held_at (h := h) (a := qaT Q k) (d := d) X (by omega) (by omega)
  have eb := X8_held_at (h := h) (a := qbT Q k) (d := d) X (by omega) (by omega)
  by_cases c2 : qkT Q k ≤ 2
  · have e := H.lookAtWords G X k0 k1 c2 d0 d1
    simp (disch := omega) only [m_X8_lookIn, rc_ok G.tag, rc_ok X.1, G.number0 k0 k1, G.number1 k0 k1, G.kindOf k0 k1, ea, eb, e, lm8, lm2, lm1, l0, l1, l2, l3, l4, l5, l6, l7, l8, l9, l10, l11, l12, l13, l14, l15, l16, l17, l18, l19, l20, l21, l22, l23, l24, l25, l27, l31, l32, l40, l46, l48, l50, l57, l59, l63, l86, l96, l97, l100, l110, l114, l122, l127, l200, l255, l300, l319, l320, l340, l441, l456, l580, l600, l800, l886, l1206, l1526, J_add, J_sub, J_mul, J_neg, J_lt, J_le, J_eq, jT, jF, iT, iF, eT, eF, aT, aF, ite_true, ite_false, ite_not, bs]
  · have ha := hq.2.2.2.1 (by omega)
    have e1 : atE h (x + 1) 32 (qaT Q k * 4 + d) = HE T Q (qaT Q k) d := by rw [atE_in (by omega) (by omega), C _ ha.1 ha.2]
    rw [e1] at ea
    have hla := HE_lt2 (T := T) (Q := Q) (k := qaT Q k) (d := d) G.2.1 ha.1 (by omega)
    have hev := H.everyVersion d0 (by omega)
    have hnn : (T (1 + d)).toNat < 11 := by omega
    have hHE := HE_eq (T := T) (d := d) G.2.1 k0 k1
    have hho : ∀ f : Int → Bool, (∀ v, hoB T Q (HE T Q) k d v = f v) → HE T Q k d = setN (T (1 + d)).toNat f := fun f hf => by
      rw [hHE]
      exact setN_congr (fun v _ _ => hf v)
    by_cases c3 : qkT Q k = 3
    · have ef := hho (fun v => !bt (HE T Q (qaT Q k) d) v) (fun v => by unfold hoB; rw [if_neg (by omega), if_neg (by omega), if_neg (by omega), if_pos c3])
      have et : J ((2 ^ (T (1 + d)).toNat - 1 : Nat)) &&& (J (HE T Q (qaT Q k) d : Nat) ^^^ (-1 : Int32)) = J (HE T Q k d : Nat) := by
        rw [ef]
        exact not_tab _ hnn _ hla
      rw [lm1] at et
      simp (disch := omega) only [m_X8_lookIn, rc_ok G.tag, rc_ok H.tag, rc_ok X.1, G.number0 k0 k1, G.number1 k0 k1, G.kindOf k0 k1, ea, eb, hev, c3, lm8, lm2, lm1, l0, l1, l2, l3, l4, l5, l6, l7, l8, l9, l10, l11, l12, l13, l14, l15, l16, l17, l18, l19, l20, l21, l22, l23, l24, l25, l27, l31, l32, l40, l46, l48, l50, l57, l59, l63, l86, l96, l97, l100, l110, l114, l122, l127, l200, l255, l300, l319, l320, l340, l441, l456, l580, l600, l800, l886, l1206, l1526, J_add, J_sub, J_mul, J_neg, J_lt, J_le, J_eq, jT, jF, iT, iF, eT, eF, aT, aF, ite_true, ite_false, ite_not, bs, et]
    · by_cases c4 : qkT Q k = 4
      · have ef := hho (fun v => anyZ (v + 1) (fun u => bt (HE T Q (qaT Q k) d) u)) (fun v => by unfold hoB; rw [if_neg (by omega), if_neg (by omega), if_neg (by omega), if_neg c3, if_pos c4])
        have et : J ((2 ^ (T (1 + d)).toNat - 1 : Nat)) &&& (-(J (HE T Q (qaT Q k) d : Nat) &&& (-(J (HE T Q (qaT Q k) d : Nat))))) = J (HE T Q k d : Nat) := by
          rw [ef]
          exact ever_tab _ hnn _ hla
        unfold m_X8_lookIn
        rw [rc_ok G.tag, rc_ok G.tag, rc_ok G.tag, rc_ok H.tag, l0, l1, G.number0 k0 k1, bs, rc_ok X.1, ea, bs, G.number1 k0 k1, bs, rc_ok X.1, eb, bs, G.kindOf k0 k1, bs, c4, if_neg (by decide), if_pos (by decide), hev, bs, et]
      · by_cases c5 : qkT Q k = 5
        · have ef := hho (fun v => bt (HE T Q (qaT Q k) d) v && !bt (HE T Q (qaT Q k) d) (v - 1)) (fun v => by unfold hoB; rw [if_neg (by omega), if_neg (by omega), if_neg (by omega), if_neg c3, if_neg c4, if_pos c5])
          have et : J (HE T Q (qaT Q k) d : Nat) &&& ((ishlF (J (HE T Q (qaT Q k) d : Nat)) (1 : Int32)) ^^^ (-1 : Int32)) = J (HE T Q k d : Nat) := by
            rw [ef]
            exact new_tab _ hnn _ hla
          rw [lm1, l1] at et
          simp (disch := omega) only [m_X8_lookIn, rc_ok G.tag, rc_ok H.tag, rc_ok X.1, G.number0 k0 k1, G.number1 k0 k1, G.kindOf k0 k1, ea, eb, c5, lm8, lm2, lm1, l0, l1, l2, l3, l4, l5, l6, l7, l8, l9, l10, l11, l12, l13, l14, l15, l16, l17, l18, l19, l20, l21, l22, l23, l24, l25, l27, l31, l32, l40, l46, l48, l50, l57, l59, l63, l86, l96, l97, l100, l110, l114, l122, l127, l200, l255, l300, l319, l320, l340, l441, l456, l580, l600, l800, l886, l1206, l1526, J_add, J_sub, J_mul, J_neg, J_lt, J_le, J_eq, jT, jF, iT, iF, eT, eF, aT, aF, ite_true, ite_false, ite_not, bs, et]
        · have hb := hq.2.2.2.2.2.1 (by omega)
          have e2 : atE h (x + 1) 32 (qbT Q k * 4 + d) = HE T Q (qbT Q k) d := by rw [atE_in (by omega) (by omega), C _ hb.1 hb.2]
          rw [e2] at eb
          have hlb := HE_lt2 (T := T) (Q := Q) (k := qbT Q k) (d := d) G.2.1 hb.1 (by omega)
          by_cases c6 : qkT Q k = 6
          · have ef := hho (fun v => bt (HE T Q (qaT Q k) d) v && bt (HE T Q (qbT Q k) d) v) (fun v => by unfold hoB; rw [if_neg (by omega), if_neg (by omega), if_neg (by omega), if_neg c3, if_neg c4, if_neg c5, if_pos c6])
            rw [setN_and hla] at ef
            simp (disch := omega) only [m_X8_lookIn, rc_ok G.tag, rc_ok H.tag, rc_ok X.1, G.number0 k0 k1, G.number1 k0 k1, G.kindOf k0 k1, ea, eb, c6, lm8, lm2, lm1, l0, l1, l2, l3, l4, l5, l6, l7, l8, l9, l10, l11, l12, l13, l14, l15, l16, l17, l18, l19, l20, l21, l22, l23, l24, l25, l27, l31, l32, l40, l46, l48, l50, l57, l59, l63, l86, l96, l97, l100, l110, l114, l122, l127, l200, l255, l300, l319, l320, l340, l441, l456, l580, l600, l800, l886, l1206, l1526, J_add, J_sub, J_mul, J_neg, J_lt, J_le, J_eq, jT, jF, iT, iF, eT, eF, aT, aF, ite_true, ite_false, ite_not, bs, nx_and2, ef]
          · have c7 : qkT Q k = 7 := by omega
            have ef := hho (fun v => bt (HE T Q (qaT Q k) d) v || bt (HE T Q (qbT Q k) d) v) (fun v => by unfold hoB; rw [if_neg (by omega), if_neg (by omega), if_neg (by omega), if_neg c3, if_neg c4, if_neg c5, if_neg c6])
            rw [setN_or hla hlb] at ef
            simp (disch := omega) only [m_X8_lookIn, rc_ok G.tag, rc_ok H.tag, rc_ok X.1, G.number0 k0 k1, G.number1 k0 k1, G.kindOf k0 k1, ea, eb, c7, lm8, lm2, lm1, l0, l1, l2, l3, l4, l5, l6, l7, l8, l9, l10, l11, l12, l13, l14, l15, l16, l17, l18, l19, l20, l21, l22, l23, l24, l25, l27, l31, l32, l40, l46, l48, l50, l57, l59, l63, l86, l96, l97, l100, l110, l114, l122, l127, l200, l255, l300, l319, l320, l340, l441, l456, l580, l600, l800, l886, l1206, l1526, J_add, J_sub, J_mul, J_neg, J_lt, J_le, J_eq, jT, jF, iT, iF, eT, eF, aT, aF, ite_true, ite_false, ite_not, bs, nx_or2, ef]
/-- what the class has looked after -/
def SC (h : Hp) (x : Nat) (T Q : Int → Int) (n : Int) : Prop := ∀ k d, 0 ≤ k → k < n → 0 ≤ d → d < T 0 → hE h (x + 1) (k * 4 + d) = HE T Q k d
theorem CA.look (H : CA h o T) (G : QA h g Q) {x : Nat} (X : TS8 (top h) x) (hx : x + 1 < o ∨ o + 9 < x + 1) (hx2 : x + 1 < g ∨ g + 4 < x + 1) {last : Int} (l0_ : -1 ≤ last) (l1_ : last < Q 0) : ∃ h', m_X8_look x o g (J last) h = some h' ∧ FR (ASe x) h h' ∧ SC h' x T Q (last + 1) := by
  have hn0 := H.wf.n0
  have hsz := G.2.1.1
  have inner : ∀ (k : Int) (K : Hp → Option Hp) (h1 : Hp), 0 ≤ k → k ≤ last → FR (ASe x) h h1 → SC h1 x T Q k → ∃ h2, l_X8_look_19 x o g (J last) (J k) K (J 0) h1 = K h2 ∧ FR (ASe x) h h2 ∧ SC h2 x T Q (k + 1) := by
    intro k K h1 k0 k1 F S
    unfold l_X8_look_19
    obtain ⟨s, ⟨h2, rfl, F2, S2, S3⟩, e⟩ := loop_ex (body := fun (k_ : Int32 × Hp → Option Hp) (s : Int32 × Hp) => b_X8_look_19 x o g (J last) (J k) K (fun v5q hq => k_ (v5q, hq)) s.1 s.2) (s := (J 0, h1)) (fun d s => ∃ h', s = (J d, h') ∧ FR (ASe x) h h' ∧ SC h' x T Q k ∧ ∀ d', 0 ≤ d' → d' < d → hE h' (x + 1) (k * 4 + d') = HE T Q k d') (fun s => K s.2) (T 0) hn0.1 (by omega) ⟨h1, rfl, F, S, fun _ _ _ => by omega⟩ (by
        rintro K1 d s d0 d1 ⟨h', rfl, F, S, S3⟩
        have X' : TS8 (top h') x := by rw [F.1]; exact X
        have H' := H.frS hx F
        have G' := G.frS hx2 F
        have el := H'.lookIn G' X' k0 (by omega) d0 d1 (fun a a0 a1 => S a d a0 a1 d0 d1)
        have hlt := HE_lt H.wf G.2.1 k0 (show k < Q 0 by omega) d0 (by omega)
        refine ⟨(J (d + 1), wE h' (x + 1) (k * 4 + d) (HE T Q k d)), ⟨_, rfl, F.trans (FR.wE rfl), fun a b a0 a1 b0 b1 => ?_, fun d' e0 e1 => ?_⟩, ?_⟩
        · rw [hE_wE (by omega) (by omega) (by omega) (by omega), if_neg (by omega)]
          exact S a b a0 a1 b0 b1
        · rw [hE_wE (by omega) (by omega) (by omega) (by omega)]
          by_cases z : d' = d
          · rw [if_pos ⟨rfl, by rw [z]⟩, z]
          · rw [if_neg (by omega)]
            exact S3 d' e0 (by omega)
        · show b_X8_look_19 x o g (J last) (J k) K (fun v5q hq => K1 (v5q, hq)) (J d) h' = _
          simp (disch := omega) only [b_X8_look_19, H'.f0, rc_ok X'.1, gfR_ok (h := h') (t := 8) (k := 0) X'.1 X'.2.1, el, X5_set_ok X'.2.2, lm8, lm2, lm1, l0, l1, l2, l3, l4, l5, l6, l7, l8, l9, l10, l11, l12, l13, l14, l15, l16, l17, l18, l19, l20, l21, l22, l23, l24, l25, l27, l31, l32, l40, l46, l48, l50, l57, l59, l63, l86, l96, l97, l100, l110, l114, l122, l127, l200, l255, l300, l319, l320, l340, l441, l456, l580, l600, l800, l886, l1206, l1526, J_add, J_sub, J_mul, J_neg, J_lt, J_le, J_eq, jT, jF, iT, iF, eT, eF, aT, aF, ite_true, ite_false, ite_not, bs]) (by
        rintro K1 s ⟨h', rfl, F, -⟩
        have H' := H.frS hx F
        show b_X8_look_19 x o g (J last) (J k) K (fun v5q hq => K1 (v5q, hq)) (J (T 0)) h' = _
        simp (disch := omega) only [b_X8_look_19, H'.f0, lm8, lm2, lm1, l0, l1, l2, l3, l4, l5, l6, l7, l8, l9, l10, l11, l12, l13, l14, l15, l16, l17, l18, l19, l20, l21, l22, l23, l24, l25, l27, l31, l32, l40, l46, l48, l50, l57, l59, l63, l86, l96, l97, l100, l110, l114, l122, l127, l200, l255, l300, l319, l320, l340, l441, l456, l580, l600, l800, l886, l1206, l1526, J_add, J_sub, J_mul, J_neg, J_lt, J_le, J_eq, jT, jF, iT, iF, eT, eF, aT, aF, ite_true, ite_false, ite_not, bs])
    refine ⟨h2, e, F2, fun a b a0 a1 b0 b1 => ?_⟩
    by_cases z : a = k
    · rw [z]
      exact S3 b b0 b1
    · exact S2 a b a0 (by omega) b0 b1
  unfold m_X8_look l_X8_look_3
  obtain ⟨s, ⟨h2, rfl, F2, S2⟩, e⟩ := loop_ex (body := fun (k_ : Int32 × Hp → Option Hp) (s : Int32 × Hp) => b_X8_look_3 x o g (J last) (fun v4q hq => k_ (v4q, hq)) s.1 s.2) (s := (J 0, h)) (fun k s => ∃ h', s = (J k, h') ∧ FR (ASe x) h h' ∧ SC h' x T Q k) (fun s => some s.2) (last + 1) (by omega) (by omega) ⟨h, rfl, FR.refl _ _, fun a b a0 a1 => by omega⟩ (by
      rintro K1 k s k0 k1 ⟨h', rfl, F, S⟩
      obtain ⟨h2, e2, F2, S2⟩ := inner k (fun hz1 => j_X8_look_58 x o g (J last) (J k) hz1 (fun v4q hq => K1 (v4q, hq))) h' k0 (by omega) F S
      refine ⟨(J (k + 1), h2), ⟨h2, rfl, F2, S2⟩, ?_⟩
      show b_X8_look_3 x o g (J last) (fun v4q hq => K1 (v4q, hq)) (J k) h' = _
      simp (disch := omega) only [b_X8_look_3, lm8, lm2, lm1, l0, l1, l2, l3, l4, l5, l6, l7, l8, l9, l10, l11, l12, l13, l14, l15, l16, l17, l18, l19, l20, l21, l22, l23, l24, l25, l27, l31, l32, l40, l46, l48, l50, l57, l59, l63, l86, l96, l97, l100, l110, l114, l122, l127, l200, l255, l300, l319, l320, l340, l441, l456, l580, l600, l800, l886, l1206, l1526, J_add, J_sub, J_mul, J_neg, J_lt, J_le, J_eq, jT, jF, iT, iF, eT, eF, aT, aF, ite_true, ite_false, ite_not, bs]
      refine e2.trans ?_
      simp only [j_X8_look_58, lm8, lm2, lm1, l0, l1, l2, l3, l4, l5, l6, l7, l8, l9, l10, l11, l12, l13, l14, l15, l16, l17, l18, l19, l20, l21, l22, l23, l24, l25, l27, l31, l32, l40, l46, l48, l50, l57, l59, l63, l86, l96, l97, l100, l110, l114, l122, l127, l200, l255, l300, l319, l320, l340, l441, l456, l580, l600, l800, l886, l1206, l1526, J_add, J_sub, J_mul, J_neg, J_lt, J_le, J_eq, jT, jF, iT, iF, eT, eF, aT, aF, ite_true, ite_false, ite_not, bs]) (by
      rintro K1 s ⟨h', rfl, F, -⟩
      show b_X8_look_3 x o g (J last) (fun v4q hq => K1 (v4q, hq)) (J (last + 1)) h' = _
      simp (disch := omega) only [b_X8_look_3, lm8, lm2, lm1, l0, l1, l2, l3, l4, l5, l6, l7, l8, l9, l10, l11, l12, l13, l14, l15, l16, l17, l18, l19, l20, l21, l22, l23, l24, l25, l27, l31, l32, l40, l46, l48, l50, l57, l59, l63, l86, l96, l97, l100, l110, l114, l122, l127, l200, l255, l300, l319, l320, l340, l441, l456, l580, l600, l800, l886, l1206, l1526, J_add, J_sub, J_mul, J_neg, J_lt, J_le, J_eq, jT, jF, iT, iF, eT, eF, aT, aF, ite_true, ite_false, ite_not, bs])
  exact ⟨h2, e, F2, S2⟩
end HD
