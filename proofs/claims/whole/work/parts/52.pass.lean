/-! PURE PART: passages, the class -/
section Z52
variable {T : Int → Int}
theorem loop_inv {σ R : Type} {body : (σ → Option R) → σ → Option R} {r : Option R} {s : σ} (P : Int → σ → Prop) (n : Int) (h0 : 0 ≤ n) (hn : n < 4294967296) (h : P 0 s) (hs : ∀ k i s, 0 ≤ i → i < n → P i s → ∃ s', P (i + 1) s' ∧ body k s = k s') (he : ∀ k s, P n s → body k s = r) : loopK FUEL body s = r := by
  have key : ∀ j : Nat, ∀ (i : Int) (s : σ) (fuel : Nat), 0 ≤ i → i + j = n → j < fuel → P i s → loopK fuel body s = r := by
    intro j
    induction j with
    | zero =>
      intro i s fuel hi hin hf hP
      obtain ⟨f, rfl⟩ : ∃ f, fuel = f + 1 := ⟨fuel - 1, by omega⟩
      have : i = n := by omega
      subst this
      exact he _ s hP
    | succ j ih =>
      intro i s fuel hi hin hf hP
      obtain ⟨f, rfl⟩ : ∃ f, fuel = f + 1 := ⟨fuel - 1, by omega⟩
      obtain ⟨s', hP', e⟩ := hs (loopK f body) i s hi (by omega) hP
      show body (loopK f body) s = r
      rw [e]
      exact ih (i + 1) s' f (by omega) (by omega) (by omega) hP'
  exact key n.toNat 0 s FUEL (Int.le_refl 0) (by omega) (lt_FUEL (by omega)) h
/-- the greatest of the first n, 0 at least -/
def mxN : Nat → (Nat → Int) → Int
  | 0, _ => 0
  | n + 1, f => max (mxN n f) (f n)
def mxZ (n : Int) (f : Int → Int) : Int := mxN n.toNat (fun i => f i)
theorem mxZ_0 {f : Int → Int} : mxZ 0 f = 0 := rfl
theorem mxZ_succ {n : Int} {f : Int → Int} (h : 0 ≤ n) : mxZ (n + 1) f = max (mxZ n f) (f n) := by
  unfold mxZ
  rw [show (n + 1).toNat = n.toNat + 1 by omega]
  show max _ (f (n.toNat : Int)) = _
  rw [Int.toNat_of_nonneg h]
theorem mxN_spec (n : Nat) (f : Nat → Int) : 0 ≤ mxN n f ∧ (∀ i, i < n → f i ≤ mxN n f) ∧ (mxN n f = 0 ∨ ∃ i, i < n ∧ mxN n f = f i) := by
  induction n with
  | zero => exact ⟨Int.le_refl 0, fun i hi => absurd hi (by omega), Or.inl rfl⟩
  | succ n ih =>
    obtain ⟨h1, h2, h3⟩ := ih
    show 0 ≤ max (mxN n f) (f n) ∧ (∀ i, i < n + 1 → f i ≤ max (mxN n f) (f n)) ∧ (max (mxN n f) (f n) = 0 ∨ ∃ i, i < n + 1 ∧ max (mxN n f) (f n) = f i)
    refine ⟨by omega, fun i hi => ?_, ?_⟩
    · by_cases hin : i = n
      · subst hin
        omega
      · have := h2 i (by omega)
        omega
    · by_cases hc : mxN n f ≤ f n
      · exact Or.inr ⟨n, by omega, by omega⟩
      · rw [show max (mxN n f) (f n) = mxN n f by omega]
        rcases h3 with h3 | ⟨i, h4, h5⟩
        · exact Or.inl h3
        · exact Or.inr ⟨i, by omega, h5⟩
theorem mxZ_nn {n : Int} {f : Int → Int} : 0 ≤ mxZ n f := (mxN_spec _ _).1
theorem mxZ_ge {n i : Int} {f : Int → Int} (h0 : 0 ≤ i) (h1 : i < n) : f i ≤ mxZ n f := by
  have := (mxN_spec n.toNat (fun i => f i)).2.1 i.toNat (by omega)
  rw [Int.toNat_of_nonneg h0] at this
  exact this
theorem mxZ_at (n : Int) (f : Int → Int) : mxZ n f = 0 ∨ ∃ i, 0 ≤ i ∧ i < n ∧ mxZ n f = f i := by
  rcases (mxN_spec n.toNat (fun i => f i)).2.2 with h | ⟨i, h1, h2⟩
  · exact Or.inl h
  · exact Or.inr ⟨i, by omega, by omega, h2⟩
theorem mxZ_le {n c : Int} {f : Int → Int} (hc : 0 ≤ c) (h : ∀ i, 0 ≤ i → i < n → f i ≤ c) : mxZ n f ≤ c := by
  rcases mxZ_at n f with e | ⟨i, h0, h1, e⟩
  · omega
  · rw [e]
    exact h i h0 h1
/-- b goes just behind a wherever a is, and is nowhere else -/
def tgT (T : Int → Int) (d a b : Int) : Bool := decide (stT T a = stT T b) && decide (fiZ (T (1 + d)) (fun v => inV T d v a && !decide (plT T d v a + 1 = plT T d v b)) = -1)
theorem tg_iff {T : Int → Int} {d a b : Int} (hd : 0 ≤ d) (hd2 : d < T 0) : tgT T d a b = true ↔ stT T a = stT T b ∧ ∀ v, vvT T d v → inV T d v a = true → plT T d v a + 1 = plT T d v b := by
  unfold tgT
  rw [Bool.and_eq_true, decide_eq_true_eq, decide_eq_true_eq]
  refine and_congr_right (fun _ => ?_)
  rcases fiZ_spec (T (1 + d)) (fun v => inV T d v a && !decide (plT T d v a + 1 = plT T d v b)) with ⟨e1, e2⟩ | ⟨e1, e2, e3, e4⟩
  · refine ⟨fun _ v hv hi => ?_, fun _ => e1⟩
    have := e2 v hv.2.2.1 hv.2.2.2
    rw [hi, Bool.true_and] at this
    simpa using this
  · refine ⟨fun q => absurd q (by omega), fun q => ?_⟩
    rw [Bool.and_eq_true] at e3
    have := q _ ⟨hd, hd2, e1, e2⟩ e3.1
    have e5 := e3.2
    rw [decide_eq_true this] at e5
    cases e5
/-- the first version of a token -/
def fvT (T : Int → Int) (t : Int) : Int := fiN 10 (fun v => (stT T t).testBit v)
/-- a token of a document -/
def tkT (T : Int → Int) (d t : Int) : Prop := 0 ≤ t ∧ t < T 5 ∧ owT T t = d
theorem AW.tk (W : AW T) {d t : Int} (h : tkT T d t) : 0 ≤ d ∧ d < T 0 := by
  have := W.2.2.2.2.2.2.2 t h.1 h.2.1
  have h3 := h.2.2
  omega
theorem AW.rwtk (W : AW T) {d v q : Int} (hp : ppT T d v q) : tkT T d (rwT T d v q) := W.rw hp
theorem fv_spec (W : AW T) {d t : Int} (h : tkT T d t) : vvT T d (fvT T t) ∧ inV T d (fvT T t) t = true ∧ ∀ w, vvT T d w → inV T d w t = true → fvT T t ≤ w := by
  obtain ⟨h0, h1, h2⟩ := h
  obtain ⟨_, _, _, _, _, v, hv, hi⟩ := W.2.2.2.2.2.2.2 t h0 h1
  rw [h2] at hv hi
  unfold fvT
  rcases fiN_spec 10 (fun v => (stT T t).testBit v) with ⟨e1, e2⟩ | ⟨i, e1, e2, e3, e4⟩
  · have hb := W.vb hv
    have e5 := bt_stT h2 hv
    rw [hi] at e5
    unfold bt at e5
    rw [Bool.and_eq_true, e2 v.toNat (by omega)] at e5
    cases e5.2
  · rw [e2]
    have e5 : (stT T t).testBit i = true := e3
    unfold stT at e5
    rw [setN_bit, Bool.and_eq_true, decide_eq_true_eq, h2] at e5
    have hd := W.tk ⟨h0, h1, h2⟩
    refine ⟨⟨hd.1, hd.2, by omega, by omega⟩, e5.2, fun w hw hwi => ?_⟩
    have hb := W.vb hw
    have e6 := bt_stT h2 hw
    rw [hwi] at e6
    unfold bt at e6
    rw [Bool.and_eq_true] at e6
    by_cases hc : (i : Int) ≤ w
    · exact hc
    · have e7 := e4 w.toNat (by omega)
      rw [show ((stT T t).testBit w.toNat) = true from e6.2] at e7
      cases e7
def fsB (T : Int → Int) (d v q : Int) : Bool := decide (fvT T (rwT T d v q) = v)
def glT (T : Int → Int) (d v q : Int) : Bool := tgT T d (rwT T d v (q - 1)) (rwT T d v q)
def goB (T : Int → Int) (d v q : Int) : Bool := decide (0 < q) && glT T d v q
theorem gl_fs {d v q : Int} (hd : 0 ≤ d) (hd2 : d < T 0) (h : glT T d v q = true) : fsB T d v q = fsB T d v (q - 1) := by
  have := ((tg_iff hd hd2).mp h).1
  unfold fsB fvT
  rw [this]
/-- how long the passage is that ends at a place -/
def LN (T : Int → Int) (d v : Int) : Nat → Int
  | 0 => 1
  | q + 1 => if glT T d v ((q : Int) + 1) = true then LN T d v q + 1 else 1
def LZ (T : Int → Int) (d v q : Int) : Int := LN T d v q.toNat
theorem LZ_succ {d v q : Int} (h : 0 ≤ q) : LZ T d v (q + 1) = if glT T d v (q + 1) = true then LZ T d v q + 1 else 1 := by
  unfold LZ
  rw [show (q + 1).toNat = q.toNat + 1 by omega]
  show (if glT T d v ((q.toNat : Int) + 1) = true then _ else _) = _
  rw [Int.toNat_of_nonneg h]
theorem LN_rg (d v : Int) (q : Nat) : 1 ≤ LN T d v q ∧ LN T d v q ≤ q + 1 := by
  induction q with
  | zero => exact ⟨Int.le_refl 1, Int.le_refl 1⟩
  | succ q ih =>
    show 1 ≤ (if glT T d v ((q : Int) + 1) = true then LN T d v q + 1 else 1) ∧ (if glT T d v ((q : Int) + 1) = true then LN T d v q + 1 else 1) ≤ ((q + 1 : Nat) : Int) + 1
    split <;> omega
theorem LZ_rg {d v q : Int} (h : 0 ≤ q) : 1 ≤ LZ T d v q ∧ LZ T d v q ≤ q + 1 := by
  have := LN_rg (T := T) d v q.toNat
  unfold LZ
  omega
/-- the last passage's length, as the class has it -/
def leN (T : Int → Int) (d v l : Int) : Nat → Int
  | 0 => l
  | q + 1 => if fsB T d v q = true then LZ T d v q else leN T d v l q
def leZ (T : Int → Int) (d v l q : Int) : Int := leN T d v l q.toNat
theorem leZ_succ {T : Int → Int} {d v l q : Int} (h : 0 ≤ q) : leZ T d v l (q + 1) = if fsB T d v q = true then LZ T d v q else leZ T d v l q := by
  unfold leZ
  rw [show (q + 1).toNat = q.toNat + 1 by omega]
  show (if fsB T d v (q.toNat : Int) = true then LZ T d v (q.toNat : Int) else _) = _
  rw [Int.toNat_of_nonneg h]
theorem J9_max_ok {h : Hp} {a b : Int} (h1 : -2147483648 ≤ a) (h2 : a < 2147483648) (h3 : -2147483648 ≤ b) (h4 : b < 2147483648) : m_J9_max_7cf53 (J a) (J b) h = some (J (max a b)) := by
  unfold m_J9_max_7cf53 j_J9_max_7cf53_10
  by_cases hc : a < b
  · simp (disch := omega) only [J_lt, jT, Int.max_eq_right]
  · simp (disch := omega) only [J_lt, jF, Int.max_eq_left]
def paN (T : Int → Int) (d : Int) : Int := sumZ (T (1 + d)) (fun v => sumZ (lnT T d v) (fun q => b01 (fsB T d v q && !goB T d v q)))
def paM (T : Int → Int) (d : Int) : Int := mxZ (T (1 + d)) (fun v => mxZ (lnT T d v) (fun q => if fsB T d v q = true then LZ T d v q else 0))
section PA
variable {h : Hp} {o : Nat} {T : Int → Int}
theorem CA.stayTogether (H : CA h o T) {x : Nat} (hx : hTag h x = 3) {d a b : Int} (ha : tkT T d a) (hb : tkT T d b) : m_X2_stayTogether x o (J d) (J a) (J b) h = some (J (b01 (tgT T d a b))) := by
  have h5 := H.wf.n5
  have h0 := H.wf.n0
  have hd := H.wf.tk ha
  have hn := H.wf.nv hd.1 (by omega)
  have ma := stT_lt H.wf ha.1 ha.2.1
  have mb := stT_lt H.wf hb.1 hb.2.1
  have a1 := ha.1
  have a2 := ha.2.1
  have b1 := hb.1
  have b2 := hb.2.1
  unfold tgT
  by_cases hs : stT T a = stT T b
  · rw [decide_eq_true hs, Bool.true_and]
    unfold m_X2_stayTogether
    simp (disch := omega) only [rc_ok H.tag, H.stayOf, lm8, lm2, lm1, l0, l1, l2, l3, l4, l5, l6, l7, l8, l9, l10, l11, l12, l13, l14, l15, l16, l17, l18, l19, l20, l21, l22, l23, l24, l25, l27, l31, l32, l40, l46, l48, l50, l57, l59, l63, l86, l96, l97, l100, l110, l114, l122, l127, l200, l255, l300, l319, l320, l340, l441, l456, l580, l600, l800, l886, l1206, l1526, J_add, J_sub, J_mul, J_neg, J_lt, J_le, J_eq, jT, jF, iT, iF, eT, eF, aT, aF, ite_true, ite_false, ite_not, bs]
    unfold l_X2_stayTogether_23
    refine loop_find (fun i => J i) (T (1 + d)) (fun v => inV T d v a && !decide (plT T d v a + 1 = plT T d v b)) (fun i => some (J (b01 (decide (i = -1))))) hn.1 (by omega) rfl (fun k i hi hi2 hp => ?_) (fun k i hi hi2 hp => ?_) (fun k => ?_)
    · have hv : vvT T d i := ⟨hd.1, hd.2, hi, hi2⟩
      have g1 := plT_rg H.wf hv (t := a)
      have g2 := plT_rg H.wf hv (t := b)
      have e1 := X5_bit_ok (h := h) (v := i) ma (by omega) (by omega)
      rw [bt_stT ha.2.2 hv] at e1
      cases hc : inV T d i a
      · rw [hc] at e1
        simp (disch := omega) only [b_X2_stayTogether_23, j_X2_stayTogether_70, rc_ok H.tag, rc_ok hx, H.versionsOf, e1, l0, l1, J_le, iF, bs, b1N, cond_false, J_add]
      · rw [hc] at e1
        rw [hc, Bool.true_and] at hp
        have hp2 : plT T d i a + 1 = plT T d i b := by simpa using hp
        simp (disch := omega) only [b_X2_stayTogether_23, j_X2_stayTogether_70, rc_ok H.tag, rc_ok hx, H.versionsOf, H.placeOf hv, e1, l0, l1, J_le, iF, bs, b1N, cond_true, J_add, J_eq, eT]
    · have hv : vvT T d i := ⟨hd.1, hd.2, hi, hi2⟩
      have g1 := plT_rg H.wf hv (t := a)
      have g2 := plT_rg H.wf hv (t := b)
      have e1 := X5_bit_ok (h := h) (v := i) ma (by omega) (by omega)
      rw [bt_stT ha.2.2 hv] at e1
      rw [Bool.and_eq_true] at hp
      rw [hp.1] at e1
      have hp2 : ¬ plT T d i a + 1 = plT T d i b := by simpa using hp.2
      simp (disch := omega) only [b_X2_stayTogether_23, j_X2_stayTogether_70, rc_ok H.tag, rc_ok hx, H.versionsOf, H.placeOf hv, e1, l0, l1, J_le, iF, bs, b1N, cond_true, J_add, J_eq, eF]
      rw [decide_eq_false (by omega)]
      rfl
    · simp (disch := omega) only [b_X2_stayTogether_23, rc_ok H.tag, H.versionsOf, lm8, lm2, lm1, l0, l1, l2, l3, l4, l5, l6, l7, l8, l9, l10, l11, l12, l13, l14, l15, l16, l17, l18, l19, l20, l21, l22, l23, l24, l25, l27, l31, l32, l40, l46, l48, l50, l57, l59, l63, l86, l96, l97, l100, l110, l114, l122, l127, l200, l255, l300, l319, l320, l340, l441, l456, l580, l600, l800, l886, l1206, l1526, J_add, J_sub, J_mul, J_neg, J_lt, J_le, J_eq, jT, jF, iT, iF, eT, eF, aT, aF, ite_true, ite_false, ite_not, bs]
      rfl
  · rw [decide_eq_false hs, Bool.false_and]
    unfold m_X2_stayTogether
    simp (disch := omega) only [rc_ok H.tag, H.stayOf, lm8, lm2, lm1, l0, l1, l2, l3, l4, l5, l6, l7, l8, l9, l10, l11, l12, l13, l14, l15, l16, l17, l18, l19, l20, l21, l22, l23, l24, l25, l27, l31, l32, l40, l46, l48, l50, l57, l59, l63, l86, l96, l97, l100, l110, l114, l122, l127, l200, l255, l300, l319, l320, l340, l441, l456, l580, l600, l800, l886, l1206, l1526, J_add, J_sub, J_mul, J_neg, J_lt, J_le, J_eq, jT, jF, iT, iF, eT, eF, aT, aF, ite_true, ite_false, ite_not, bs]
    rfl
theorem CA.passInner (H : CA h o T) {x : Nat} (hx : hTag h x = 3) {d v : Int} (hv : vvT T d v) (g c l : Int) (hg : 0 ≤ g ∧ g ≤ 20) (K : Int32 → Int32 → Int32 → Option Int32) (b : Int32) : l_X2_passages_25 x o (J d) b (J v) h K (J c) (J l) (J g) (J 0) = K (J (c + sumZ (lnT T d v) (fun q => b01 (fsB T d v q && !goB T d v q)))) (J (leZ T d v l (lnT T d v))) (J (max g (mxZ (lnT T d v) (fun q => if fsB T d v q = true then LZ T d v q else 0)))) := by
  have hb := H.wf.vb hv
  have hl := H.wf.ln hv
  have h5 := H.wf.n5
  unfold l_X2_passages_25
  refine loop_int (fun i => (J (c + sumZ i (fun q => b01 (fsB T d v q && !goB T d v q))), J (leZ T d v l i), J (max g (mxZ i (fun q => if fsB T d v q = true then LZ T d v q else 0))), J i)) (lnT T d v) hl.1 (by omega) (by rw [sumZ_0, mxZ_0, Int.add_zero, show max g 0 = g by omega]; rfl) (fun k i hi hi2 => ?_) (fun k => ?_)
  · have hp : ppT T d v i := ⟨hv, hi, hi2⟩
    have hr := H.wf.rw hp
    have hm := stT_lt H.wf hr.1 hr.2.1
    have e1 : m_X5_firstBit (J (stT T (rwT T d v i) : Nat)) h = some (J (fvT T (rwT T d v i))) := X5_firstBit_ok hm
    have hf := H.wf.vb (fv_spec H.wf (H.wf.rwtk hp)).1
    have hL := LZ_rg (T := T) (d := d) (v := v) hi
    have hM0 : 0 ≤ mxZ i (fun q => if fsB T d v q = true then LZ T d v q else 0) := mxZ_nn
    have hM : mxZ i (fun q => if fsB T d v q = true then LZ T d v q else 0) ≤ 20 := by
      refine mxZ_le (by omega) (fun j j0 j1 => ?_)
      have := LZ_rg (T := T) (d := d) (v := v) j0
      show (if fsB T d v j = true then LZ T d v j else 0) ≤ (20 : Int)
      split <;> omega
    rw [sumZ_succ hi, mxZ_succ hi, leZ_succ hi]
    generalize hMg : mxZ i (fun q => if fsB T d v q = true then LZ T d v q else 0) = M at hM0 hM
    cases hfs : fsB T d v i
    · have hne : fvT T (rwT T d v i) ≠ v := by
        unfold fsB at hfs
        simpa using hfs
      rw [if_neg (by decide), if_neg (by decide), show max g (max M 0) = max g M by omega]
      simp (disch := omega) only [b_X2_passages_25, j_X2_passages_135, rc_ok H.tag, H.lengthOf hv, H.tokenAt hp, H.stayOf, e1, lm8, lm2, lm1, l0, l1, l2, l3, l4, l5, l6, l7, l8, l9, l10, l11, l12, l13, l14, l15, l16, l17, l18, l19, l20, l21, l22, l23, l24, l25, l27, l31, l32, l40, l46, l48, l50, l57, l59, l63, l86, l96, l97, l100, l110, l114, l122, l127, l200, l255, l300, l319, l320, l340, l441, l456, l580, l600, l800, l886, l1206, l1526, J_add, J_sub, J_mul, J_neg, J_lt, J_le, J_eq, jT, jF, iT, iF, eT, eF, aT, aF, ite_true, ite_false, ite_not, bs]
      rw [Bool.false_and, show b01 false = 0 from rfl, Int.add_zero]
    · have hfe : fvT T (rwT T d v i) = v := by
        unfold fsB at hfs
        simpa using hfs
      rw [if_pos rfl, if_pos rfl]
      by_cases hi0 : i = 0
      · have hgo : goB T d v i = false := by
          unfold goB
          rw [decide_eq_false (by omega)]
          rfl
        have hLi : LZ T d v i = 1 := by
          rw [hi0]
          rfl
        rw [hgo, hLi]
        simp (disch := omega) only [b_X2_passages_25, j_X2_passages_135, j_X2_passages_94, j_X2_passages_108, j_X2_passages_124, rc_ok H.tag, H.lengthOf hv, H.tokenAt hp, H.stayOf, e1, J9_max_ok, lm8, lm2, lm1, l0, l1, l2, l3, l4, l5, l6, l7, l8, l9, l10, l11, l12, l13, l14, l15, l16, l17, l18, l19, l20, l21, l22, l23, l24, l25, l27, l31, l32, l40, l46, l48, l50, l57, l59, l63, l86, l96, l97, l100, l110, l114, l122, l127, l200, l255, l300, l319, l320, l340, l441, l456, l580, l600, l800, l886, l1206, l1526, J_add, J_sub, J_mul, J_neg, J_lt, J_le, J_eq, jT, jF, iT, iF, eT, eF, aT, aF, ite_true, ite_false, ite_not, bs]
        rw [show b01 (true && !false) = 1 from rfl, Int.add_assoc, show max (max g M) 1 = max g (max M 1) by omega]
      · have hq : ppT T d v (i - 1) := ⟨hv, by omega, by omega⟩
        have e3 := H.stayTogether hx (H.wf.rwtk hq) (H.wf.rwtk hp)
        have e4 : m_X2_stayTogether x o (J d) (J (rwT T d v (i - 1))) (J (rwT T d v i)) h = some (J (b01 (glT T d v i))) := e3
        have hLs : LZ T d v i = if glT T d v i = true then LZ T d v (i - 1) + 1 else 1 := by
          have := LZ_succ (T := T) (d := d) (v := v) (q := i - 1) (by omega)
          rw [show i - 1 + 1 = i by omega] at this
          exact this
        cases hgl : glT T d v i
        · have hgo : goB T d v i = false := by
            unfold goB
            rw [hgl, Bool.and_false]
          have hLi : LZ T d v i = 1 := by
            rw [hLs, if_neg (by rw [hgl]; decide)]
          rw [hgl] at e4
          rw [hgo, hLi]
          simp (disch := omega) only [b_X2_passages_25, j_X2_passages_135, j_X2_passages_94, j_X2_passages_108, j_X2_passages_124, rc_ok H.tag, rc_ok hx, H.lengthOf hv, H.tokenAt hp, H.tokenAt hq, H.stayOf, e1, e4, J9_max_ok, bI, bJ, lm8, lm2, lm1, l0, l1, l2, l3, l4, l5, l6, l7, l8, l9, l10, l11, l12, l13, l14, l15, l16, l17, l18, l19, l20, l21, l22, l23, l24, l25, l27, l31, l32, l40, l46, l48, l50, l57, l59, l63, l86, l96, l97, l100, l110, l114, l122, l127, l200, l255, l300, l319, l320, l340, l441, l456, l580, l600, l800, l886, l1206, l1526, J_add, J_sub, J_mul, J_neg, J_lt, J_le, J_eq, jT, jF, iT, iF, eT, eF, aT, aF, ite_true, ite_false, ite_not, bs, cond_false]
          rw [show b01 (true && !false) = 1 from rfl, Int.add_assoc, show max (max g M) 1 = max g (max M 1) by omega]
        · have hgo : goB T d v i = true := by
            unfold goB
            rw [hgl, decide_eq_true (by omega)]
            rfl
          have hLi : LZ T d v i = LZ T d v (i - 1) + 1 := by
            rw [hLs, if_pos hgl]
          have hl3 : leZ T d v l i = LZ T d v (i - 1) := by
            have := leZ_succ (T := T) (d := d) (v := v) (l := l) (q := i - 1) (by omega)
            rw [show i - 1 + 1 = i by omega, ← gl_fs hv.1 hv.2.1 hgl, if_pos hfs] at this
            exact this
          have hL1 := LZ_rg (T := T) (d := d) (v := v) (q := i - 1) (by omega)
          rw [hgl] at e4
          rw [hgo, hLi, hl3]
          simp (disch := omega) only [b_X2_passages_25, j_X2_passages_135, j_X2_passages_94, j_X2_passages_108, j_X2_passages_124, rc_ok H.tag, rc_ok hx, H.lengthOf hv, H.tokenAt hp, H.tokenAt hq, H.stayOf, e1, e4, J9_max_ok, bI, bJ, lm8, lm2, lm1, l0, l1, l2, l3, l4, l5, l6, l7, l8, l9, l10, l11, l12, l13, l14, l15, l16, l17, l18, l19, l20, l21, l22, l23, l24, l25, l27, l31, l32, l40, l46, l48, l50, l57, l59, l63, l86, l96, l97, l100, l110, l114, l122, l127, l200, l255, l300, l319, l320, l340, l441, l456, l580, l600, l800, l886, l1206, l1526, J_add, J_sub, J_mul, J_neg, J_lt, J_le, J_eq, jT, jF, iT, iF, eT, eF, aT, aF, ite_true, ite_false, ite_not, bs, cond_true]
          rw [show b01 (true && !true) = 0 from rfl, Int.add_zero, Int.add_zero, show max (max g M) (LZ T d v (i - 1) + 1) = max g (max M (LZ T d v (i - 1) + 1)) by omega]
  · simp (disch := omega) only [b_X2_passages_25, rc_ok H.tag, H.lengthOf hv, J_le, iT, bs]
theorem CA.passages (H : CA h o T) {x : Nat} (hx : hTag h x = 3) {d : Int} (hd : 0 ≤ d) (hd2 : d < T 0) {b : Bool} : m_X2_passages x o (J d) (J (b01 b)) h = some (J (bif b then paM T d else paN T d)) := by
  have h0 := H.wf.n0
  have hn := H.wf.nv hd (by omega)
  unfold m_X2_passages l_X2_passages_12
  have hin : ∀ i, 0 ≤ i → i < T (1 + d) → mxZ (lnT T d i) (fun q => if fsB T d i q = true then LZ T d i q else 0) ≤ 20 := by
    intro i hi hi2
    have hl := H.wf.ln (d := d) (v := i) ⟨hd, hd2, hi, hi2⟩
    refine mxZ_le (by omega) (fun q q0 q1 => ?_)
    have := LZ_rg (T := T) (d := d) (v := i) q0
    show (if fsB T d i q = true then LZ T d i q else 0) ≤ (20 : Int)
    split <;> omega
  refine loop_inv (fun i s => ∃ l : Int, s = (J (sumZ i (fun v => sumZ (lnT T d v) (fun q => b01 (fsB T d v q && !goB T d v q)))), J l, J (mxZ i (fun v => mxZ (lnT T d v) (fun q => if fsB T d v q = true then LZ T d v q else 0))), J i)) (T (1 + d)) hn.1 (by omega) ⟨0, rfl⟩ ?_ ?_
  · rintro k i s hi hi2 ⟨l, rfl⟩
    have hv : vvT T d i := ⟨hd, hd2, hi, hi2⟩
    have hM : mxZ i (fun v => mxZ (lnT T d v) (fun q => if fsB T d v q = true then LZ T d v q else 0)) ≤ 20 := mxZ_le (by omega) (fun j j0 j1 => hin j j0 (by omega))
    have hM0 : 0 ≤ mxZ i (fun v => mxZ (lnT T d v) (fun q => if fsB T d v q = true then LZ T d v q else 0)) := mxZ_nn
    refine ⟨_, ⟨leZ T d i l (lnT T d i), rfl⟩, ?_⟩
    have e := fun c l K => H.passInner hx hv _ c l ⟨hM0, hM⟩ K (J (b01 b))
    rw [sumZ_succ hi, mxZ_succ hi]
    simp (disch := omega) only [b_X2_passages_12, j_X2_passages_141, rc_ok H.tag, H.versionsOf, lm8, lm2, lm1, l0, l1, l2, l3, l4, l5, l6, l7, l8, l9, l10, l11, l12, l13, l14, l15, l16, l17, l18, l19, l20, l21, l22, l23, l24, l25, l27, l31, l32, l40, l46, l48, l50, l57, l59, l63, l86, l96, l97, l100, l110, l114, l122, l127, l200, l255, l300, l319, l320, l340, l441, l456, l580, l600, l800, l886, l1206, l1526, J_add, J_sub, J_mul, J_neg, J_lt, J_le, J_eq, jT, jF, iT, iF, eT, eF, aT, aF, ite_true, ite_false, ite_not, bs, e]
  · rintro k s ⟨l, rfl⟩
    simp (disch := omega) only [b_X2_passages_12, rc_ok H.tag, H.versionsOf, J_le, iT, bs]
    unfold j_X2_passages_147 j_X2_passages_158
    rw [l0, bI]
    cases b <;> rfl
end PA
end Z52
