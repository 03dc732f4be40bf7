/-! PURE PART: doc, put, cut, move, back: the class -/
def rPut (T : Int → Int) (d e p w : Int) : Int → Int := fun q => if q < p then rwT T d e q else if q < p + w then T 5 + (q - p) else rwT T d e (q - w)
def rCut (T : Int → Int) (d e p c : Int) : Int → Int := fun q => if q < p then rwT T d e q else rwT T d e (q + c)
def rMov (T : Int → Int) (d e a b : Int) : Int → Int := shW b (rwT T d e a) (fun i => if i < a then rwT T d e i else rwT T d e (i + 1))
section DE
variable {h : Hp} {o : Nat} {T : Int → Int} {z d m n : Int} {ws r : Int → Int}
theorem MG_of (W : AW T) {d m n : Int} (d0 : 0 ≤ d) (d1 : d < 4) (hv : T (1 + d) ≤ 9) (m0 : 0 ≤ m) (m1 : T 5 + m ≤ 319) (n0 : 0 ≤ n) (n1 : n ≤ 20) : MG T d m n := ⟨⟨d0, d1⟩, ⟨(W.nv d0 d1).1, hv⟩, W.n5.1, ⟨m0, m1⟩, n0, n1⟩
theorem rw_in (W : AW T) {d e q : Int} (hv : vvT T d e) (q0 : 0 ≤ q) (q1 : q < lnT T d e) : 0 ≤ rwT T d e q ∧ rwT T d e q < T 5 ∧ owT T (rwT T d e q) = d := W.rw ⟨hv, q0, q1⟩
theorem rw_inj (W : AW T) {d e q p : Int} (hv : vvT T d e) (q0 : 0 ≤ q) (q1 : q < lnT T d e) (p0 : 0 ≤ p) (p1 : p < lnT T d e) (h : rwT T d e q = rwT T d e p) : q = p := W.2.2.2.2.2.2.1 d e q p ⟨hv, q0, q1⟩ ⟨hv, p0, p1⟩ h
theorem VK_doc (W : AW T) {w : Int} (h4 : T 0 < 4) (w0 : 0 ≤ w) (w1 : w ≤ 20) (h5 : T 5 + w ≤ 319) (hws : ∀ i, 0 ≤ i → i < w → wrg (ws i)) : VK T 1 (T 0) w ws w (fun q => T 5 + q) := by
  have h0 := W.n0
  have ht := W.n5
  have hz := W.2.2.1 (T 0) (Int.le_refl _) h4
  refine ⟨Or.inr ⟨rfl, rfl, h4⟩, MG_of W h0.1 h4 (by omega) w0 h5 w0 w1, fun q q0 q1 => ⟨?_, ?_, fun y => ?_⟩, fun q p q0 q1 p0 p1 he => ?_, fun i i0 i1 => ⟨i, i0, i1, rfl⟩, hws⟩
  · show 0 ≤ T 5 + q
    omega
  · show T 5 + q < T 5 + w
    omega
  · have : T 5 + q < T 5 := y
    omega
  · have : T 5 + q = T 5 + p := he
    omega
theorem VK_put (W : AW T) {d e p w : Int} (hv : vvT T d e) (h9 : T (1 + d) ≤ 9) (p0 : 0 ≤ p) (p1 : p ≤ lnT T d e) (w0 : 0 ≤ w) (w1 : lnT T d e + w ≤ 20) (h5 : T 5 + w ≤ 319) (hws : ∀ i, 0 ≤ i → i < w → wrg (ws i)) : VK T 0 d w ws (lnT T d e + w) (rPut T d e p w) := by
  have h0 := W.n0
  have ht := W.n5
  have hb := W.vb hv
  have hl := W.ln hv
  have key : ∀ q, 0 ≤ q → q < lnT T d e + w → (rPut T d e p w q = rwT T d e q ∧ q < p) ∨ (rPut T d e p w q = T 5 + (q - p) ∧ p ≤ q ∧ q < p + w) ∨ (rPut T d e p w q = rwT T d e (q - w) ∧ p + w ≤ q) := by
    intro q q0 q1
    unfold rPut
    by_cases c1 : q < p
    · rw [if_pos c1]
      exact Or.inl ⟨rfl, c1⟩
    · rw [if_neg c1]
      by_cases c2 : q < p + w
      · rw [if_pos c2]
        exact Or.inr (Or.inl ⟨rfl, by omega, c2⟩)
      · rw [if_neg c2]
        exact Or.inr (Or.inr ⟨rfl, by omega⟩)
  refine ⟨Or.inl ⟨rfl, hb.1, hv.2.1⟩, MG_of W hb.1 hb.2.1 h9 w0 h5 (by omega) w1, fun q q0 q1 => ?_, fun q s q0 q1 s0 s1 he => ?_, fun i i0 i1 => ⟨p + i, by omega, by omega, ?_⟩, hws⟩
  · rcases key q q0 q1 with ⟨k1, k2⟩ | ⟨k1, k2, k3⟩ | ⟨k1, k2⟩
    · have := rw_in W hv q0 (show q < lnT T d e by omega)
      rw [k1]
      exact ⟨this.1, by omega, fun _ => this.2.2⟩
    · rw [k1]
      exact ⟨by omega, by omega, fun y => by omega⟩
    · have := rw_in W hv (q := q - w) (by omega) (by omega)
      rw [k1]
      exact ⟨this.1, by omega, fun _ => this.2.2⟩
  · rcases key q q0 q1 with ⟨k1, k2⟩ | ⟨k1, k2, k3⟩ | ⟨k1, k2⟩ <;> rcases key s s0 s1 with ⟨l1, l2⟩ | ⟨l1, l2, l3⟩ | ⟨l1, l2⟩ <;> rw [k1, l1] at he
    · exact rw_inj W hv q0 (by omega) s0 (by omega) he
    · have := rw_in W hv q0 (show q < lnT T d e by omega)
      omega
    · have := rw_inj W hv q0 (show q < lnT T d e by omega) (show 0 ≤ s - w by omega) (by omega) he
      omega
    · have := rw_in W hv s0 (show s < lnT T d e by omega)
      omega
    · omega
    · have := rw_in W hv (q := s - w) (by omega) (by omega)
      omega
    · have := rw_inj W hv (show 0 ≤ q - w by omega) (by omega) s0 (show s < lnT T d e by omega) he
      omega
    · have := rw_in W hv (q := q - w) (by omega) (by omega)
      omega
    · have := rw_inj W hv (show 0 ≤ q - w by omega) (by omega) (show 0 ≤ s - w by omega) (by omega) he
      omega
  · unfold rPut
    rw [if_neg (by omega), if_pos (by omega)]
    omega
theorem VK_cut (W : AW T) {d e p c : Int} (hv : vvT T d e) (h9 : T (1 + d) ≤ 9) (p0 : 0 ≤ p) (c0 : 0 ≤ c) (pc : p + c ≤ lnT T d e) : VK T 0 d 0 ws (lnT T d e - c) (rCut T d e p c) := by
  have h0 := W.n0
  have ht := W.n5
  have hb := W.vb hv
  have hl := W.ln hv
  have key : ∀ q, 0 ≤ q → q < lnT T d e - c → (rCut T d e p c q = rwT T d e q ∧ q < p) ∨ (rCut T d e p c q = rwT T d e (q + c) ∧ p ≤ q) := by
    intro q q0 q1
    unfold rCut
    by_cases c1 : q < p
    · rw [if_pos c1]
      exact Or.inl ⟨rfl, c1⟩
    · rw [if_neg c1]
      exact Or.inr ⟨rfl, by omega⟩
  refine ⟨Or.inl ⟨rfl, hb.1, hv.2.1⟩, MG_of W hb.1 hb.2.1 h9 (Int.le_refl 0) (by omega) (by omega) (by omega), fun q q0 q1 => ?_, fun q s q0 q1 s0 s1 he => ?_, fun i i0 i1 => by omega, fun i i0 i1 => by omega⟩
  · rcases key q q0 q1 with ⟨k1, k2⟩ | ⟨k1, k2⟩
    · have := rw_in W hv q0 (show q < lnT T d e by omega)
      rw [k1]
      exact ⟨this.1, by omega, fun _ => this.2.2⟩
    · have := rw_in W hv (q := q + c) (by omega) (by omega)
      rw [k1]
      exact ⟨this.1, by omega, fun _ => this.2.2⟩
  · rcases key q q0 q1 with ⟨k1, k2⟩ | ⟨k1, k2⟩ <;> rcases key s s0 s1 with ⟨l1, l2⟩ | ⟨l1, l2⟩ <;> rw [k1, l1] at he
    · exact rw_inj W hv q0 (by omega) s0 (by omega) he
    · have := rw_inj W hv q0 (show q < lnT T d e by omega) (show 0 ≤ s + c by omega) (by omega) he
      omega
    · have := rw_inj W hv (show 0 ≤ q + c by omega) (by omega) s0 (show s < lnT T d e by omega) he
      omega
    · have := rw_inj W hv (show 0 ≤ q + c by omega) (by omega) (show 0 ≤ s + c by omega) (by omega) he
      omega
/-- where a word of a moved row comes from -/
def mvI (a b q : Int) : Int := if q < b then (if q < a then q else q + 1) else if q = b then a else (if q - 1 < a then q - 1 else q)
theorem rMov_at {T : Int → Int} {d e a b q : Int} : rMov T d e a b q = rwT T d e (mvI a b q) := by
  unfold rMov shW mvI
  by_cases c1 : q < b
  · rw [if_pos c1, if_pos c1]
    dsimp only
    by_cases c2 : q < a
    · rw [if_pos c2, if_pos c2]
    · rw [if_neg c2, if_neg c2]
  · rw [if_neg c1, if_neg c1]
    by_cases c2 : q = b
    · rw [if_pos c2, if_pos c2]
    · rw [if_neg c2, if_neg c2]
      dsimp only
      by_cases c3 : q - 1 < a
      · rw [if_pos c3, if_pos c3]
      · rw [if_neg c3, if_neg c3, show q - 1 + 1 = q by omega]
theorem VK_mov (W : AW T) {d e a b : Int} (hv : vvT T d e) (h9 : T (1 + d) ≤ 9) (a0 : 0 ≤ a) (a1 : a < lnT T d e) (b0 : 0 ≤ b) (b1 : b < lnT T d e) : VK T 0 d 0 ws (lnT T d e) (rMov T d e a b) := by
  have h0 := W.n0
  have ht := W.n5
  have hb := W.vb hv
  have hl := W.ln hv
  have hm : ∀ q, 0 ≤ q → q < lnT T d e → 0 ≤ mvI a b q ∧ mvI a b q < lnT T d e := by
    intro q q0 q1
    unfold mvI
    split
    · split <;> omega
    · split
      · omega
      · split <;> omega
  refine ⟨Or.inl ⟨rfl, hb.1, hv.2.1⟩, MG_of W hb.1 hb.2.1 h9 (Int.le_refl 0) (by omega) (by omega) (by omega), fun q q0 q1 => ?_, fun q s q0 q1 s0 s1 he => ?_, fun i i0 i1 => by omega, fun i i0 i1 => by omega⟩
  · rw [rMov_at]
    have := rw_in W hv (hm q q0 q1).1 (hm q q0 q1).2
    exact ⟨this.1, by omega, fun _ => this.2.2⟩
  · rw [rMov_at, rMov_at] at he
    have := rw_inj W hv (hm q q0 q1).1 (hm q q0 q1).2 (hm s s0 s1).1 (hm s s0 s1).2 he
    unfold mvI at this
    split at this <;> split at this <;> (try split at this) <;> (try split at this) <;> (try split at this) <;> omega
theorem VK_bck (W : AW T) {d v : Int} (hv : vvT T d v) (h9 : T (1 + d) ≤ 9) : VK T 0 d 0 ws (lnT T d v) (fun q => rwT T d v q) := by
  have h0 := W.n0
  have ht := W.n5
  have hb := W.vb hv
  have hl := W.ln hv
  refine ⟨Or.inl ⟨rfl, hb.1, hv.2.1⟩, MG_of W hb.1 hb.2.1 h9 (Int.le_refl 0) (by omega) hl.1 hl.2, fun q q0 q1 => ?_, fun q s q0 q1 s0 s1 he => rw_inj W hv q0 q1 s0 s1 he, fun i i0 i1 => by omega, fun i i0 i1 => by omega⟩
  have := rw_in W hv q0 q1
  refine ⟨this.1, ?_, fun _ => this.2.2⟩
  show rwT T d v q < T 5 + 0
  omega
theorem CB.congr {r' : Int → Int} (B : CB h o T z d m ws n r) (e : ∀ q, 0 ≤ q → q < n → r q = r' q) : CB h o T z d m ws n r' := ⟨B.1, B.2.1, B.2.2.1, fun q q0 q1 => by rw [B.2.2.2 q q0 q1, e q q0 q1]⟩
theorem sl_eq : slC T d = slC T d := rfl
/-- m words more from a row of spellings, put in from a place on -/
theorem CB.words {a : Nat} {p w : Int} {r0 : Int → Int} {n0 : Int} (B : CB h o T z d 0 ws n0 r0) (p0 : 0 ≤ p) (p1 : p ≤ n0) (w0 : 0 ≤ w) (w1 : n0 + w ≤ 20) (h5 : T 5 + w ≤ 319) (hws : ∀ i, 0 ≤ i → i < w → wrg (ws i)) (hsp : ∀ h', FR (ABd o (slC T d)) h h' → ∀ i, 0 ≤ i → i < w → m_X5_at a (J i) h' = some (J (wide (ws i)))) (K : Hp → Option Hp) (body : (Int32 × Hp → Option Hp) → Int32 × Hp → Option Hp) (hb : ∀ k i h', 0 ≤ i → i < w → body k (J i, h') = (m_X5_at a (J i) h').bind fun x1 => (rc h' o 1 (m_X0_newToken o (J d) x1 h')).bind fun x2 => (rc x2.2 o 1 (m_X0_insert o (J (slC T d)) (J (p + i)) x2.1 x2.2)).bind fun x3 => k (J (i + 1), x3)) (he : ∀ k h', body k (J w, h') = K h') : ∃ h', loopK FUEL body (J 0, h) = K h' ∧ FR (ABd o (slC T d)) h h' ∧ CB h' o T z d w ws (n0 + w) (fun q => if q < p then r0 q else if q < p + w then T 5 + (q - p) else r0 (q - w)) := by
  have hW := B.1.2.1
  have ht := hW.n5
  obtain ⟨s, ⟨h1, rfl, F1, B1⟩, e1⟩ := loop_ex (body := body) (s := (J 0, h)) (fun i s => ∃ h', s = (J i, h') ∧ FR (ABd o (slC T d)) h h' ∧ CB h' o T z d i ws (n0 + i) (fun q => if q < p then r0 q else if q < p + i then T 5 + (q - p) else r0 (q - i))) (fun s => K s.2) w w0 (by omega) ⟨h, rfl, FR.refl _ _, by
      rw [show n0 + 0 = n0 by omega]
      exact B.congr (fun q q0 q1 => by
        by_cases c : q < p
        · rw [if_pos c]
        · rw [if_neg c, if_neg (by omega), show q - 0 = q by omega])⟩ (by
      rintro k i s i0 i1 ⟨h', rfl, F, B'⟩
      obtain ⟨h2, e2, F2, B2⟩ := B'.newToken (by omega) (hws i i0 i1)
      obtain ⟨h3, e3, F3, B3⟩ := B2.insert (p := p + i) (x := T 5 + i) (by omega) (by omega) (by omega) (by omega) (by omega)
      refine ⟨(J (i + 1), h3), ⟨h3, rfl, (F.trans F2).trans (F3.mono (fun b k q => sub_Sl q)), ?_⟩, ?_⟩
      · rw [show n0 + (i + 1) = n0 + i + 1 by omega]
        refine B3.congr (fun q q0 q1 => ?_)
        unfold shW
        dsimp only
        by_cases c1 : q < p
        · rw [if_pos (by omega), if_pos c1, if_pos c1]
        · rw [if_neg c1]
          by_cases c2 : q < p + i
          · rw [if_pos c2, if_neg c1, if_pos c2, if_pos (by omega)]
          · rw [if_neg c2]
            by_cases c3 : q = p + i
            · rw [if_pos c3, if_pos (show q < p + (i + 1) by omega)]
              omega
            · rw [if_neg c3, if_neg (show ¬ q - 1 < p + i by omega), if_neg (show ¬ q < p + (i + 1) by omega), show q - 1 - i = q - (i + 1) by omega]
              by_cases c4 : q - 1 < p
              · omega
              · rw [if_neg c4, if_neg c1]
      · rw [hb k i h' i0 i1, hsp h' F i i0 i1, bs, rc_ok B'.1.tag, e2, bs, rc_ok B2.1.tag, e3, bs]) (by
      rintro k s ⟨h', rfl, -⟩
      exact he k h')
  exact ⟨h1, e1, F1, B1⟩
theorem CA.addDocument (H : CA h o T) {a : Nat} {w dt : Int} (h4 : T 0 < 4) (w0 : 0 ≤ w) (w1 : w ≤ 20) (h5 : T 5 + w ≤ 319) (hws : ∀ i, 0 ≤ i → i < w → wrg (ws i)) (hsp : ∀ h', FR (ABd o (slC T (T 0))) h h' → ∀ i, 0 ≤ i → i < w → m_X5_at a (J i) h' = some (J (wide (ws i)))) (dt0 : -2147483648 ≤ dt) (dt1 : dt < 2147483648) : ∃ h', m_X0_addDocument o a (J w) (J dt) h = some h' ∧ FR (ABd o (slC T (T 0))) h h' ∧ CA h' o (mkT T 1 (T 0) w ws w (fun q => T 5 + q) dt) ∧ hE h' (o + 2) (slC T (T 0)) = dt := by
  have h0 := H.wf.n0
  have ht := H.wf.n5
  have hz := H.wf.2.2.1 (T 0) (Int.le_refl _) h4
  have K := VK_doc (ws := ws) H.wf h4 w0 w1 h5 hws
  obtain ⟨c1, c2, c3, c4, c5, c6, c7, c8⟩ := H
  generalize hg : wE (wE h o 0 (T 0 + 1)) (o + 1) (T 0) 0 = g
  have t0 : TA (top (wE h o 0 (T 0 + 1))) o := c1
  have tg : TA (top g) o := by rw [← hg]; exact c1
  have cell : ∀ (b : Nat) (i : Int), 0 ≤ i → hE g b i = if b = o + 1 ∧ i = T 0 then 0 else if b = o ∧ i = 0 then T 0 + 1 else hE h b i := by
    intro b i i0
    rw [← hg, hE_wE h0.1 i0 (by omega) (by omega), hE_wE (by omega) i0 (by omega) (by omega)]
  have Fg : FR (ABd o (slC T (T 0))) h g := by
    rw [← hg]
    exact (FR.wE (Or.inl ⟨rfl, Or.inl rfl⟩)).trans (FR.wE (by unfold ABd; omega))
  have Bp : CBp g o T 1 (T 0) 0 ws := by
    refine ⟨tg, c2, Or.inr ⟨rfl, rfl, h4⟩, MG_of c2 h0.1 h4 (by omega) (Int.le_refl 0) (by omega) (Int.le_refl 0) (by omega), ?_, ?_, fun e e0 e1 => ?_, fun e v hv => ?_, fun e v q hp => ?_, fun t t0 t1 => ⟨?_, ?_, ?_⟩, fun i i0 i1 => by omega⟩
    · rw [cell _ _ (by omega), if_neg (by omega), if_pos ⟨rfl, rfl⟩]
    · rw [cell _ _ (by omega), if_neg (by omega), if_neg (by omega), c4]
      omega
    · rw [cell _ _ e0]
      by_cases y : e = T 0
      · rw [if_pos ⟨rfl, y⟩, y, hz]
      · rw [if_neg (fun q => y q.2), if_neg (by omega), c5 e e0 e1]
    · have hb := c2.vb hv
      rw [cell _ _ (by omega), if_neg (by omega), if_neg (by omega), c6 e v hv]
    · have hb := c2.vb hp.1
      have hq := hp.2
      rw [cell _ _ (by omega), if_neg (by omega), if_neg (by omega), c7 e v q hp]
    · rw [cell _ _ t0, if_neg (by omega), if_neg (by omega), (c8 t t0 t1).1]
    · rw [cell _ _ t0, if_neg (by omega), if_neg (by omega), (c8 t t0 t1).2.1]
    · rw [cell _ _ t0, if_neg (by omega), if_neg (by omega), (c8 t t0 t1).2.2]
  obtain ⟨h2, e2, F2, B2⟩ := Bp.open_ (e := -1) (Or.inl rfl)
  rw [if_pos rfl] at B2
  have F02 : FR (ABd o (slC T (T 0))) h h2 := Fg.trans (F2.mono (fun b k q => sub_Sl q))
  have B20 : CB h2 o T 1 (T 0) 0 ws 0 (fun q => T 5 + q) := B2.congr (fun q q0 q1 => by omega)
  obtain ⟨h3, e3, F3, B3⟩ := B20.words (a := a) (p := 0) (w := w) (Int.le_refl 0) (Int.le_refl 0) w0 (by omega) h5 hws (fun h' F i i0 i1 => hsp h' (F02.trans F) i i0 i1) (fun hz6 => j_X0_addDocument_77 o (J dt) (J (T 0)) (J (slC T (T 0))) hz6) (fun (k : Int32 × Hp → Option Hp) (s : Int32 × Hp) => b_X0_addDocument_45 o a (J w) (J dt) (J (T 0)) (J (slC T (T 0))) (fun hz6 => j_X0_addDocument_77 o (J dt) (J (T 0)) (J (slC T (T 0))) hz6) (fun v6q hq => k (v6q, hq)) s.1 s.2) (fun k i h' i0 i1 => by
      show b_X0_addDocument_45 o a (J w) (J dt) (J (T 0)) (J (slC T (T 0))) _ (fun v6q hq => k (v6q, hq)) (J i) h' = _
      rw [show (0 : Int) + i = i by omega]
      simp (disch := omega) only [b_X0_addDocument_45, J_le, iF, l1, J_add]) (fun k h' => by
      show b_X0_addDocument_45 o a (J w) (J dt) (J (T 0)) (J (slC T (T 0))) _ (fun v6q hq => k (v6q, hq)) (J w) h' = _
      simp (disch := omega) only [b_X0_addDocument_45, J_le, iT])
  have B30 : CB h3 o T 1 (T 0) w ws w (fun q => T 5 + q) := by
    rw [show 0 + w = w by omega] at B3
    exact B3.congr (fun q q0 q1 => by rw [if_neg (by omega), if_pos (by omega), show q - 0 = q by omega])
  obtain ⟨h4', e4, F4, H4, D4⟩ := B30.close K dt0 dt1
  refine ⟨h4', ?_, (F02.trans F3).trans F4, H4, D4⟩
  have ef : gfI h o 1 0 = some (J (T 0)) := by rw [c1.f0, c3]
  have ep : ∀ y : Int, pfI h o 1 0 (J y) = some (wE h o 0 y) := fun y => pfI_ok c1.tag
  have es : m_X5_set (o + 1) (J (T 0)) (J 0) (wE h o 0 (T 0 + 1)) = some g := by rw [X5_set_ok t0.a3 h0.1 (by omega) (by omega), hg]
  have e5 : m_X0_open o (J (T 0)) (J (-1)) g = some (J (slC T (T 0)), h2) := e2
  simp (disch := omega) only [m_X0_addDocument, ef, ep, t0.r3, es, rc_ok Bp.tag, e5, lm8, lm2, lm1, l0, l1, l2, l3, l4, l5, l6, l7, l8, l9, l10, l11, l12, l13, l14, l15, l16, l17, l18, l19, l20, l21, l22, l23, l24, l25, l27, l31, l32, l40, l46, l48, l50, l57, l59, l63, l86, l96, l97, l100, l110, l114, l122, l127, l200, l255, l300, l319, l320, l340, l441, l456, l580, l600, l800, l886, l1206, l1526, J_add, J_sub, J_mul, J_neg, J_lt, J_le, J_eq, jT, jF, iT, iF, eT, eF, aT, aF, ite_true, ite_false, ite_not, bs]
  unfold l_X0_addDocument_45
  refine e3.trans ?_
  unfold j_X0_addDocument_77
  rw [rc_ok B30.1.tag, e4, bs]
theorem CA.putWords (H : CA h o T) {a : Nat} {d p w dt : Int} (hv : vvT T d (T (1 + d) - 1)) (h9 : T (1 + d) ≤ 9) (p0 : 0 ≤ p) (p1 : p ≤ lnT T d (T (1 + d) - 1)) (w0 : 0 ≤ w) (w1 : lnT T d (T (1 + d) - 1) + w ≤ 20) (h5 : T 5 + w ≤ 319) (hws : ∀ i, 0 ≤ i → i < w → wrg (ws i)) (hsp : ∀ h', FR (ABd o (slC T d)) h h' → ∀ i, 0 ≤ i → i < w → m_X5_at a (J i) h' = some (J (wide (ws i)))) (dt0 : -2147483648 ≤ dt) (dt1 : dt < 2147483648) : ∃ h', m_X0_putWords o (J d) (J p) a (J w) (J dt) h = some h' ∧ FR (ABd o (slC T d)) h h' ∧ CA h' o (mkT T 0 d w ws (lnT T d (T (1 + d) - 1) + w) (rPut T d (T (1 + d) - 1) p w) dt) ∧ hE h' (o + 2) (slC T d) = dt := by
  have hb := H.wf.vb hv
  have hl := H.wf.ln hv
  have K := VK_put (ws := ws) H.wf hv h9 p0 p1 w0 w1 h5 hws
  have Bp := H.pre hb.1 hv.2.1 h9 ws
  obtain ⟨h2, e2, F2, B2⟩ := Bp.open_ (e := T (1 + d) - 1) (Or.inr ⟨rfl, hv.2.2.1, hv.2.2.2⟩)
  rw [if_neg (by omega)] at B2
  have F02 : FR (ABd o (slC T d)) h h2 := F2.mono (fun b k q => sub_Sl q)
  obtain ⟨h3, e3, F3, B3⟩ := B2.words (a := a) (p := p) (w := w) p0 p1 w0 w1 h5 hws (fun h' F i i0 i1 => hsp h' (F02.trans F) i i0 i1) (fun hz3 => j_X0_putWords_51 o (J d) (J dt) (J (slC T d)) hz3) (fun (k : Int32 × Hp → Option Hp) (s : Int32 × Hp) => b_X0_putWords_17 o (J d) (J p) a (J w) (J dt) (J (slC T d)) (fun hz3 => j_X0_putWords_51 o (J d) (J dt) (J (slC T d)) hz3) (fun v7q hq => k (v7q, hq)) s.1 s.2) (fun k i h' i0 i1 => by
      show b_X0_putWords_17 o (J d) (J p) a (J w) (J dt) (J (slC T d)) _ (fun v7q hq => k (v7q, hq)) (J i) h' = _
      simp (disch := omega) only [b_X0_putWords_17, J_le, iF, l1, J_add]) (fun k h' => by
      show b_X0_putWords_17 o (J d) (J p) a (J w) (J dt) (J (slC T d)) _ (fun v7q hq => k (v7q, hq)) (J w) h' = _
      simp (disch := omega) only [b_X0_putWords_17, J_le, iT])
  obtain ⟨h4, e4, F4, H4, D4⟩ := CB.close (r := rPut T d (T (1 + d) - 1) p w) B3 K dt0 dt1
  refine ⟨h4, ?_, (F02.trans F3).trans F4, H4, D4⟩
  simp (disch := omega) only [m_X0_putWords, rc_ok H.tag, Bp.versionsOf, e2, lm8, lm2, lm1, l0, l1, l2, l3, l4, l5, l6, l7, l8, l9, l10, l11, l12, l13, l14, l15, l16, l17, l18, l19, l20, l21, l22, l23, l24, l25, l27, l31, l32, l40, l46, l48, l50, l57, l59, l63, l86, l96, l97, l100, l110, l114, l122, l127, l200, l255, l300, l319, l320, l340, l441, l456, l580, l600, l800, l886, l1206, l1526, J_add, J_sub, J_mul, J_neg, J_lt, J_le, J_eq, jT, jF, iT, iF, eT, eF, aT, aF, ite_true, ite_false, ite_not, bs]
  unfold l_X0_putWords_17
  refine e3.trans ?_
  unfold j_X0_putWords_51
  rw [rc_ok B3.1.tag, e4, bs]
theorem CA.cutWords (H : CA h o T) {d p c dt : Int} (hv : vvT T d (T (1 + d) - 1)) (h9 : T (1 + d) ≤ 9) (p0 : 0 ≤ p) (c0 : 0 ≤ c) (pc : p + c ≤ lnT T d (T (1 + d) - 1)) (dt0 : -2147483648 ≤ dt) (dt1 : dt < 2147483648) : ∃ h', m_X0_cutWords o (J d) (J p) (J c) (J dt) h = some h' ∧ FR (ABd o (slC T d)) h h' ∧ CA h' o (mkT T 0 d 0 ws (lnT T d (T (1 + d) - 1) - c) (rCut T d (T (1 + d) - 1) p c) dt) ∧ hE h' (o + 2) (slC T d) = dt := by
  have hb := H.wf.vb hv
  have hl := H.wf.ln hv
  have K := VK_cut (ws := ws) H.wf hv h9 p0 c0 pc
  have Bp := H.pre hb.1 hv.2.1 h9 ws
  obtain ⟨h2, e2, F2, B2⟩ := Bp.open_ (e := T (1 + d) - 1) (Or.inr ⟨rfl, hv.2.2.1, hv.2.2.2⟩)
  rw [if_neg (by omega)] at B2
  have F02 : FR (ABd o (slC T d)) h h2 := F2.mono (fun b k q => sub_Sl q)
  obtain ⟨s, ⟨h3, rfl, F3, B3⟩, e3⟩ := loop_ex (body := fun (k : Int32 × Hp → Option Hp) (s : Int32 × Hp) => b_X0_cutWords_17 o (J d) (J p) (J c) (J dt) (J (slC T d)) (fun hz3 => j_X0_cutWords_37 o (J d) (J dt) (J (slC T d)) hz3) (fun v6q hq => k (v6q, hq)) s.1 s.2) (s := (J 0, h2)) (fun i s => ∃ h', s = (J i, h') ∧ FR (ABd o (slC T d)) h2 h' ∧ CB h' o T 0 d 0 ws (lnT T d (T (1 + d) - 1) - i) (rCut T d (T (1 + d) - 1) p i)) (fun s => j_X0_cutWords_37 o (J d) (J dt) (J (slC T d)) s.2) c c0 (by omega) ⟨h2, rfl, FR.refl _ _, by
      rw [show lnT T d (T (1 + d) - 1) - 0 = lnT T d (T (1 + d) - 1) by omega]
      exact B2.congr (fun q q0 q1 => by
        unfold rCut
        by_cases y : q < p
        · rw [if_pos y]
        · rw [if_neg y, show q + 0 = q by omega])⟩ (by
      rintro k i s i0 i1 ⟨h', rfl, F, B'⟩
      obtain ⟨h3, e3, F3, B3⟩ := B'.remove (p := p) p0 (by omega)
      refine ⟨(J (i + 1), h3), ⟨h3, rfl, F.trans (F3.mono (fun b k q => sub_Sl q)), ?_⟩, ?_⟩
      · rw [show lnT T d (T (1 + d) - 1) - (i + 1) = lnT T d (T (1 + d) - 1) - i - 1 by omega]
        refine B3.congr (fun q q0 q1 => ?_)
        unfold rCut
        by_cases y : q < p
        · simp only [if_pos y]
        · rw [if_neg y, if_neg y, if_neg (by omega), show q + 1 + i = q + (i + 1) by omega]
      · show b_X0_cutWords_17 o (J d) (J p) (J c) (J dt) (J (slC T d)) _ (fun v6q hq => k (v6q, hq)) (J i) h' = _
        simp (disch := omega) only [b_X0_cutWords_17, rc_ok B'.1.tag, e3, lm8, lm2, lm1, l0, l1, l2, l3, l4, l5, l6, l7, l8, l9, l10, l11, l12, l13, l14, l15, l16, l17, l18, l19, l20, l21, l22, l23, l24, l25, l27, l31, l32, l40, l46, l48, l50, l57, l59, l63, l86, l96, l97, l100, l110, l114, l122, l127, l200, l255, l300, l319, l320, l340, l441, l456, l580, l600, l800, l886, l1206, l1526, J_add, J_sub, J_mul, J_neg, J_lt, J_le, J_eq, jT, jF, iT, iF, eT, eF, aT, aF, ite_true, ite_false, ite_not, bs]) (by
      rintro k s ⟨h', rfl, -⟩
      show b_X0_cutWords_17 o (J d) (J p) (J c) (J dt) (J (slC T d)) _ (fun v6q hq => k (v6q, hq)) (J c) h' = _
      simp (disch := omega) only [b_X0_cutWords_17, lm8, lm2, lm1, l0, l1, l2, l3, l4, l5, l6, l7, l8, l9, l10, l11, l12, l13, l14, l15, l16, l17, l18, l19, l20, l21, l22, l23, l24, l25, l27, l31, l32, l40, l46, l48, l50, l57, l59, l63, l86, l96, l97, l100, l110, l114, l122, l127, l200, l255, l300, l319, l320, l340, l441, l456, l580, l600, l800, l886, l1206, l1526, J_add, J_sub, J_mul, J_neg, J_lt, J_le, J_eq, jT, jF, iT, iF, eT, eF, aT, aF, ite_true, ite_false, ite_not, bs])
  obtain ⟨h4, e4, F4, H4, D4⟩ := B3.close K dt0 dt1
  refine ⟨h4, ?_, (F02.trans F3).trans F4, H4, D4⟩
  simp (disch := omega) only [m_X0_cutWords, rc_ok H.tag, Bp.versionsOf, e2, lm8, lm2, lm1, l0, l1, l2, l3, l4, l5, l6, l7, l8, l9, l10, l11, l12, l13, l14, l15, l16, l17, l18, l19, l20, l21, l22, l23, l24, l25, l27, l31, l32, l40, l46, l48, l50, l57, l59, l63, l86, l96, l97, l100, l110, l114, l122, l127, l200, l255, l300, l319, l320, l340, l441, l456, l580, l600, l800, l886, l1206, l1526, J_add, J_sub, J_mul, J_neg, J_lt, J_le, J_eq, jT, jF, iT, iF, eT, eF, aT, aF, ite_true, ite_false, ite_not, bs]
  unfold l_X0_cutWords_17
  refine e3.trans ?_
  unfold j_X0_cutWords_37
  rw [rc_ok B3.1.tag, e4, bs]
theorem CA.moveWord (H : CA h o T) {d a b dt : Int} (hv : vvT T d (T (1 + d) - 1)) (h9 : T (1 + d) ≤ 9) (a0 : 0 ≤ a) (a1 : a < lnT T d (T (1 + d) - 1)) (b0 : 0 ≤ b) (b1 : b < lnT T d (T (1 + d) - 1)) (dt0 : -2147483648 ≤ dt) (dt1 : dt < 2147483648) : ∃ h', m_X0_moveWord o (J d) (J a) (J b) (J dt) h = some h' ∧ FR (ABd o (slC T d)) h h' ∧ CA h' o (mkT T 0 d 0 ws (lnT T d (T (1 + d) - 1)) (rMov T d (T (1 + d) - 1) a b) dt) ∧ hE h' (o + 2) (slC T d) = dt := by
  have hb := H.wf.vb hv
  have hl := H.wf.ln hv
  have ht := H.wf.n5
  have K := VK_mov (ws := ws) H.wf hv h9 a0 a1 b0 b1
  have Bp := H.pre hb.1 hv.2.1 h9 ws
  obtain ⟨h2, e2, F2, B2⟩ := Bp.open_ (e := T (1 + d) - 1) (Or.inr ⟨rfl, hv.2.2.1, hv.2.2.2⟩)
  rw [if_neg (by omega)] at B2
  have F02 : FR (ABd o (slC T d)) h h2 := F2.mono (fun b k q => sub_Sl q)
  obtain ⟨h3, e3, F3, B3⟩ := B2.remove (p := a) a0 a1
  have hra := rw_in H.wf hv a0 a1
  obtain ⟨h5, e5, F5, B5⟩ := B3.insert (p := b) (x := rwT T d (T (1 + d) - 1) a) b0 (by omega) (by omega) hra.1 (by omega)
  rw [show lnT T d (T (1 + d) - 1) - 1 + 1 = lnT T d (T (1 + d) - 1) by omega] at B5
  obtain ⟨h4, e4, F4, H4, D4⟩ := CB.close (r := rMov T d (T (1 + d) - 1) a b) B5 K dt0 dt1
  refine ⟨h4, ?_, (F02.trans ((F3.mono (fun b k q => sub_Sl q)).trans (F5.mono (fun b k q => sub_Sl q)))).trans F4, H4, D4⟩
  simp (disch := omega) only [m_X0_moveWord, rc_ok H.tag, Bp.versionsOf, e2, rc_ok B2.1.tag, e3, rc_ok B3.1.tag, e5, rc_ok B5.1.tag, e4, lm8, lm2, lm1, l0, l1, l2, l3, l4, l5, l6, l7, l8, l9, l10, l11, l12, l13, l14, l15, l16, l17, l18, l19, l20, l21, l22, l23, l24, l25, l27, l31, l32, l40, l46, l48, l50, l57, l59, l63, l86, l96, l97, l100, l110, l114, l122, l127, l200, l255, l300, l319, l320, l340, l441, l456, l580, l600, l800, l886, l1206, l1526, J_add, J_sub, J_mul, J_neg, J_lt, J_le, J_eq, jT, jF, iT, iF, eT, eF, aT, aF, ite_true, ite_false, ite_not, bs]
theorem CA.goBack (H : CA h o T) {d v dt : Int} (hv : vvT T d v) (h9 : T (1 + d) ≤ 9) (dt0 : -2147483648 ≤ dt) (dt1 : dt < 2147483648) : ∃ h', m_X0_goBack o (J d) (J v) (J dt) h = some h' ∧ FR (ABd o (slC T d)) h h' ∧ CA h' o (mkT T 0 d 0 ws (lnT T d v) (fun q => rwT T d v q) dt) ∧ hE h' (o + 2) (slC T d) = dt := by
  have hb := H.wf.vb hv
  have hl := H.wf.ln hv
  have K := VK_bck (ws := ws) H.wf hv h9
  have Bp := H.pre hb.1 hv.2.1 h9 ws
  obtain ⟨h2, e2, F2, B2⟩ := Bp.open_ (e := v) (Or.inr ⟨rfl, hv.2.2.1, hv.2.2.2⟩)
  rw [if_neg (by omega)] at B2
  have F02 : FR (ABd o (slC T d)) h h2 := F2.mono (fun b k q => sub_Sl q)
  obtain ⟨h4, e4, F4, H4, D4⟩ := B2.close K dt0 dt1
  refine ⟨h4, ?_, F02.trans F4, H4, D4⟩
  simp (disch := omega) only [m_X0_goBack, rc_ok H.tag, e2, rc_ok B2.1.tag, e4, lm8, lm2, lm1, l0, l1, l2, l3, l4, l5, l6, l7, l8, l9, l10, l11, l12, l13, l14, l15, l16, l17, l18, l19, l20, l21, l22, l23, l24, l25, l27, l31, l32, l40, l46, l48, l50, l57, l59, l63, l86, l96, l97, l100, l110, l114, l122, l127, l200, l255, l300, l319, l320, l340, l441, l456, l580, l600, l800, l886, l1206, l1526, J_add, J_sub, J_mul, J_neg, J_lt, J_le, J_eq, jT, jF, iT, iF, eT, eF, aT, aF, ite_true, ite_false, ite_not, bs]
end DE
