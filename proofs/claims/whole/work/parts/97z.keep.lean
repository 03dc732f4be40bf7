/-! PURE PART: a text kept, both sides -/
def updF {α : Type} (f : Int → α) (p : Int) (v : α) : Int → α := fun i => if i = p then v else f i
def upN (N : Int → Int) (t p : Int) : Int → Int := fun k => if k = t then max (N t) (p + 1) else N k
def kpA (S : Sx) (p : Int) (T : Int → Int) : Sx := (sB S, sL S, sF S, sP S, upN (sN S) 0 p, updF (sT S) p T, sQ S, sU S)
def kpQ (S : Sx) (p : Int) (T : Int → Int) : Sx := (sB S, sL S, sF S, sP S, upN (sN S) 1 p, sT S, updF (sQ S) p T, sU S)
def kpU (S : Sx) (p : Int) (T : Int → Int) : Sx := (sB S, sL S, sF S, sP S, upN (sN S) 2 p, sT S, sQ S, updF (sU S) p T)
def AKp (s b _k : Nat) : Prop := b = s + 3 ∨ (s + 7 ≤ b ∧ b ≤ s + 40)
section KP
variable {h : Hp} {s o r : Nat} {S : Sx} {p : Int} {T : Int → Int}
theorem howM {g : Hp} {t n : Int} (C : TS9 (top g) s) (e : hE g (s + 3) t = n) (t0 : 0 ≤ t) (t1 : t < 3) : m_X9_howMany s (J t) g = some (J n) := by
  unfold m_X9_howMany
  rw [gfR_ok C.1 C.2.2.1.1, bs, X5_at_ok C.2.2.1.2 (by omega) (by omega) (by omega), bs, atE_in t0 (by omega), e]
theorem upN_t {N : Int → Int} {t : Int} : upN N t p t = max (N t) (p + 1) := if_pos rfl
theorem upN_n {N : Int → Int} {t k : Int} (h : k ≠ t) : upN N t p k = N k := if_neg h
theorem updF_t {α : Type} {f : Int → α} {v : α} : updF f p v p = v := if_pos rfl
theorem updF_n {α : Type} {f : Int → α} {v : α} {i : Int} (h : i ≠ p) : updF f p v i = f i := if_neg h
theorem CS.keepA (C : CS h s S) (Rd : TRd (top h) r) (hr : s + 40 < r) (p0 : 0 ≤ p) (p1 : p < 2) (p2 : p ≤ sN S 0) (n2 : sN S 0 ≤ 2) (a : CA h (r + 6) T) (d : DA h (r + 6) T) (w : CW h (r + 6) T) : ∃ g, m_X9_keep s r (J 0) (J p) h = some g ∧ FR (AKp s) h g ∧ CS g s (kpA S p T) := by
  obtain ⟨P, rfl⟩ : ∃ P : Nat, p = (P : Int) := ⟨p.toNat, by omega⟩
  have P2 : P < 2 := by omega
  have al := alR_ok (h := h) (a := s + 4) (t := 24) (n := 2) (i := (P : Int)) C.1.2.2.2.1.2.1 C.1.2.2.2.1.2.2 (by omega) p0 (by omega)
  have it := (C.1.2.2.2.2.2.2 P P2).1
  have hrr : hR h (s + 4) ((P : Int)).toNat = s + 7 + 17 * P := it.1
  rw [hrr] at al
  have rA : gfR h r 7 1 = some (r + 6) := gfR_ok Rd.1 Rd.2.2.1.1
  obtain ⟨g1, e1, I, z⟩ := X0_copyFrom_ok (h := h) (c := r + 6) (d := s + 7 + 17 * P) Rd.2.2.1.2 it.2 (by omega)
  obtain ⟨k1, k2, k3⟩ := CA.copied I z it.2 a d w
  have F1 := I.1
  have T1 : TS9 (top g1) s := by rw [F1.1]; exact C.1
  have cn : hE g1 (s + 3) 0 = sN S 0 := by rw [F1.e (by omega), C.2.2.2.2.1 0 (by omega) (by omega)]
  have hm := howM T1 cn (by omega) (by omega)
  have mx : m_J9_max_7cf53 (J (sN S 0)) (J ((P : Int) + 1)) g1 = some (J (max (sN S 0) ((P : Int) + 1))) := J9_max_ok (by omega) (by omega) (by omega) (by omega)
  have st : m_X5_set (s + 3) (J 0) (J (max (sN S 0) ((P : Int) + 1))) g1 = some (wE g1 (s + 3) 0 (max (sN S 0) ((P : Int) + 1))) := X5_set_ok T1.2.2.1.2 (by omega) (by omega) (by omega)
  have G : FR (fun b _ => b = s + 3) g1 (wE g1 (s + 3) 0 (max (sN S 0) ((P : Int) + 1))) := FR.wE (A := fun b _ => b = s + 3) rfl
  have FF : FR (fun b _ => b = s + 3 ∨ (s + 7 + 17 * P ≤ b ∧ b ≤ s + 7 + 17 * P + 9)) h (wE g1 (s + 3) 0 (max (sN S 0) ((P : Int) + 1))) := (F1.mono (fun b k q => Or.inr q)).trans (G.mono (fun b k q => Or.inl q))
  have cz : ∀ k, 0 ≤ k → k < 3 → hE (wE g1 (s + 3) 0 (max (sN S 0) ((P : Int) + 1))) (s + 3) k = upN (sN S) 0 (P : Int) k := fun k k0 k1 => by
    rw [hE_wE (by omega) k0 (by omega) (by omega)]
    by_cases q : k = 0
    · rw [if_pos ⟨rfl, q⟩, q, upN_t]
    · rw [if_neg (fun x => q x.2), upN_n q, F1.e (by omega), C.2.2.2.2.1 k k0 k1]
  have ek : m_X9_keep s r (J 0) (J (P : Int)) h = some (wE g1 (s + 3) 0 (max (sN S 0) ((P : Int) + 1))) := by
    have Cr := C.r4
    have T3 : gfR g1 s 9 3 = some (s + 3) := gfR_ok T1.1 T1.2.2.1.1
    have tg1 : hTag g1 s = 9 := T1.1
    have tgd : hTag h (s + 7 + 17 * P) = 1 := it.2.1
    simp (disch := omega) only [m_X9_keep, j_X9_keep_81, Cr, al, rA, rc_ok tgd, e1, T3, rc_ok tg1, hm, mx, st, lm8, lm2, lm1, l0, l1, l2, l3, l4, l5, l6, l7, l8, l9, l10, l11, l12, l13, l14, l15, l16, l17, l18, l19, l20, l21, l22, l23, l24, l25, l27, l31, l32, l40, l46, l48, l50, l57, l59, l63, l86, l96, l97, l100, l110, l114, l122, l127, l200, l255, l300, l319, l320, l340, l441, l456, l580, l600, l800, l886, l1206, l1526, J_add, J_sub, J_mul, J_neg, J_lt, J_le, J_eq, jT, jF, iT, iF, eT, eF, aT, aF, ite_true, ite_false, ite_not, bs]
  generalize wE g1 (s + 3) 0 (max (sN S 0) ((P : Int) + 1)) = g2 at *
  obtain ⟨c1, c2, c3, c4, c5, c6⟩ := C
  have nn : ∀ b : Nat, s ≤ b → (b ≠ s + 3 ∧ (b < s + 7 + 17 * P ∨ s + 7 + 17 * P + 9 < b)) → ¬ (b = s + 3 ∨ (s + 7 + 17 * P ≤ b ∧ b ≤ s + 7 + 17 * P + 9)) := fun b _ q => by omega
  refine ⟨g2, ek, FF.mono (fun b k q => by unfold AKp; omega), by rw [FF.1]; exact c1, c2.frame FF (by omega) (fun k => by omega), ?_, ?_, cz, fun i hi => ⟨fun q => ?_, fun q => ?_, fun q => ?_⟩⟩
  · rw [FF.e (by omega), c3]
    rfl
  · rw [FF.e (by omega), c4]
    rfl
  · by_cases qi : i = P
    · subst qi
      show CA g2 (s + 7 + 17 * i) (updF (sT S) (i : Int) T i) ∧ DA g2 (s + 7 + 17 * i) (updF (sT S) (i : Int) T i) ∧ CW g2 (s + 7 + 17 * i) (updF (sT S) (i : Int) T i)
      rw [updF_t]
      refine ⟨?_, ⟨k2.1, fun e v hv => by rw [G.e (by omega), k2.2 e v hv]⟩, ?_⟩
      · refine k1.frame G ?_ ?_ (fun k => ?_) (fun k => ?_) (fun k => ?_) (fun k => ?_) (fun k => ?_) (fun k => ?_) <;> omega
      · refine k3.frame G ?_ (fun k => ?_) (fun k => ?_) <;> omega
    · have q' : (i : Int) < max (sN S 0) ((P : Int) + 1) := by
        have q2 : (i : Int) < upN (sN S) 0 (P : Int) 0 := q
        rw [upN_t] at q2
        exact q2
      have ii : (i : Int) ≠ (P : Int) := by omega
      show CA g2 (s + 7 + 17 * i) (updF (sT S) (P : Int) T i) ∧ DA g2 (s + 7 + 17 * i) (updF (sT S) (P : Int) T i) ∧ CW g2 (s + 7 + 17 * i) (updF (sT S) (P : Int) T i)
      rw [updF_n ii]
      obtain ⟨a1, a2, a3⟩ := (c6 i hi).1 (by omega)
      refine ⟨?_, ⟨a2.1, fun e v hv => by rw [FF.e (nn _ (by omega) (by omega)), a2.2 e v hv]⟩, ?_⟩
      · refine a1.frame FF ?_ ?_ (fun k => ?_) (fun k => ?_) (fun k => ?_) (fun k => ?_) (fun k => ?_) (fun k => ?_) <;> exact nn _ (by omega) (by omega)
      · refine a3.frame FF ?_ (fun k => ?_) (fun k => ?_) <;> exact nn _ (by omega) (by omega)
  · have q' : (i : Int) < sN S 1 := by
      have q2 : (i : Int) < upN (sN S) 0 (P : Int) 1 := q
      rw [upN_n (by omega)] at q2
      exact q2
    refine ((c6 i hi).2.1 q').frame FF ?_ (fun k => ?_) (fun k => ?_) (fun k => ?_) (fun k => ?_) <;> exact nn _ (by omega) (by omega)
  · have q' : (i : Int) < sN S 2 := by
      have q2 : (i : Int) < upN (sN S) 0 (P : Int) 2 := q
      rw [upN_n (by omega)] at q2
      exact q2
    refine ((c6 i hi).2.2 q').frame FF ?_ (fun k => ?_) <;> exact nn _ (by omega) (by omega)
theorem CS.keepQ (C : CS h s S) (Rd : TRd (top h) r) (hr : s + 40 < r) (p0 : 0 ≤ p) (p1 : p < 2) (p2 : p ≤ sN S 1) (n2 : sN S 1 ≤ 2) (a : QA h (r + 16) T) : ∃ g, m_X9_keep s r (J 1) (J p) h = some g ∧ FR (AKp s) h g ∧ CS g s (kpQ S p T) := by
  obtain ⟨P, rfl⟩ : ∃ P : Nat, p = (P : Int) := ⟨p.toNat, by omega⟩
  have P2 : P < 2 := by omega
  have al := alR_ok (h := h) (a := s + 5) (t := 25) (n := 2) (i := (P : Int)) C.1.2.2.2.2.1.2.1 C.1.2.2.2.2.1.2.2 (by omega) p0 (by omega)
  have it := (C.1.2.2.2.2.2.2 P P2).2.1
  have hrr : hR h (s + 5) ((P : Int)).toNat = s + 17 + 17 * P := it.1
  rw [hrr] at al
  have rA : gfR h r 7 2 = some (r + 16) := gfR_ok Rd.1 Rd.2.2.2.1.1
  obtain ⟨g1, e1, I⟩ := X6_copyFrom_ok (h := h) (c := r + 16) (d := s + 17 + 17 * P) Rd.2.2.2.1.2 it.2 (by omega)
  have k1 := QA.copied I it.2 a
  have F1 := I.1
  have T1 : TS9 (top g1) s := by rw [F1.1]; exact C.1
  have cn : hE g1 (s + 3) 1 = sN S 1 := by rw [F1.e (by omega), C.2.2.2.2.1 1 (by omega) (by omega)]
  have hm := howM T1 cn (by omega) (by omega)
  have mx : m_J9_max_7cf53 (J (sN S 1)) (J ((P : Int) + 1)) g1 = some (J (max (sN S 1) ((P : Int) + 1))) := J9_max_ok (by omega) (by omega) (by omega) (by omega)
  have st : m_X5_set (s + 3) (J 1) (J (max (sN S 1) ((P : Int) + 1))) g1 = some (wE g1 (s + 3) 1 (max (sN S 1) ((P : Int) + 1))) := X5_set_ok T1.2.2.1.2 (by omega) (by omega) (by omega)
  have G : FR (fun b _ => b = s + 3) g1 (wE g1 (s + 3) 1 (max (sN S 1) ((P : Int) + 1))) := FR.wE (A := fun b _ => b = s + 3) rfl
  have FF : FR (fun b _ => b = s + 3 ∨ (s + 17 + 17 * P ≤ b ∧ b ≤ s + 17 + 17 * P + 4)) h (wE g1 (s + 3) 1 (max (sN S 1) ((P : Int) + 1))) := (F1.mono (fun b k q => Or.inr q)).trans (G.mono (fun b k q => Or.inl q))
  have cz : ∀ k, 0 ≤ k → k < 3 → hE (wE g1 (s + 3) 1 (max (sN S 1) ((P : Int) + 1))) (s + 3) k = upN (sN S) 1 (P : Int) k := fun k k0 k1 => by
    rw [hE_wE (by omega) k0 (by omega) (by omega)]
    by_cases q : k = 1
    · rw [if_pos ⟨rfl, q⟩, q, upN_t]
    · rw [if_neg (fun x => q x.2), upN_n q, F1.e (by omega), C.2.2.2.2.1 k k0 k1]
  have ek : m_X9_keep s r (J 1) (J (P : Int)) h = some (wE g1 (s + 3) 1 (max (sN S 1) ((P : Int) + 1))) := by
    have Cr := C.r5
    have T3 : gfR g1 s 9 3 = some (s + 3) := gfR_ok T1.1 T1.2.2.1.1
    have tg1 : hTag g1 s = 9 := T1.1
    have tgd : hTag h (s + 17 + 17 * P) = 6 := it.2.1
    simp (disch := omega) only [m_X9_keep, j_X9_keep_81, Cr, al, rA, rc_ok tgd, e1, T3, rc_ok tg1, hm, mx, st, lm8, lm2, lm1, l0, l1, l2, l3, l4, l5, l6, l7, l8, l9, l10, l11, l12, l13, l14, l15, l16, l17, l18, l19, l20, l21, l22, l23, l24, l25, l27, l31, l32, l40, l46, l48, l50, l57, l59, l63, l86, l96, l97, l100, l110, l114, l122, l127, l200, l255, l300, l319, l320, l340, l441, l456, l580, l600, l800, l886, l1206, l1526, J_add, J_sub, J_mul, J_neg, J_lt, J_le, J_eq, jT, jF, iT, iF, eT, eF, aT, aF, ite_true, ite_false, ite_not, bs]
  generalize wE g1 (s + 3) 1 (max (sN S 1) ((P : Int) + 1)) = g2 at *
  obtain ⟨c1, c2, c3, c4, c5, c6⟩ := C
  have nn : ∀ b : Nat, s ≤ b → (b ≠ s + 3 ∧ (b < s + 17 + 17 * P ∨ s + 17 + 17 * P + 4 < b)) → ¬ (b = s + 3 ∨ (s + 17 + 17 * P ≤ b ∧ b ≤ s + 17 + 17 * P + 4)) := fun b _ q => by omega
  refine ⟨g2, ek, FF.mono (fun b k q => by unfold AKp; omega), by rw [FF.1]; exact c1, c2.frame FF (by omega) (fun k => by omega), ?_, ?_, cz, fun i hi => ⟨fun q => ?_, fun q => ?_, fun q => ?_⟩⟩
  · rw [FF.e (by omega), c3]
    rfl
  · rw [FF.e (by omega), c4]
    rfl
  · have q' : (i : Int) < sN S 0 := by
      have q2 : (i : Int) < upN (sN S) 1 (P : Int) 0 := q
      rw [upN_n (by omega)] at q2
      exact q2
    obtain ⟨a1, a2, a3⟩ := (c6 i hi).1 q'
    refine ⟨?_, ⟨a2.1, fun e v hv => by rw [FF.e (nn _ (by omega) (by omega)), a2.2 e v hv]; rfl⟩, ?_⟩
    · refine a1.frame FF ?_ ?_ (fun k => ?_) (fun k => ?_) (fun k => ?_) (fun k => ?_) (fun k => ?_) (fun k => ?_) <;> exact nn _ (by omega) (by omega)
    · refine a3.frame FF ?_ (fun k => ?_) (fun k => ?_) <;> exact nn _ (by omega) (by omega)
  · by_cases qi : i = P
    · subst qi
      show QA g2 (s + 17 + 17 * i) (updF (sQ S) (i : Int) T i)
      rw [updF_t]
      refine k1.frame G ?_ (fun k => ?_) (fun k => ?_) (fun k => ?_) (fun k => ?_) <;> omega
    · have q' : (i : Int) < max (sN S 1) ((P : Int) + 1) := by
        have q2 : (i : Int) < upN (sN S) 1 (P : Int) 1 := q
        rw [upN_t] at q2
        exact q2
      have ii : (i : Int) ≠ (P : Int) := by omega
      show QA g2 (s + 17 + 17 * i) (updF (sQ S) (P : Int) T i)
      rw [updF_n ii]
      refine ((c6 i hi).2.1 (by omega)).frame FF ?_ (fun k => ?_) (fun k => ?_) (fun k => ?_) (fun k => ?_) <;> exact nn _ (by omega) (by omega)
  · have q' : (i : Int) < sN S 2 := by
      have q2 : (i : Int) < upN (sN S) 1 (P : Int) 2 := q
      rw [upN_n (by omega)] at q2
      exact q2
    refine ((c6 i hi).2.2 q').frame FF ?_ (fun k => ?_) <;> exact nn _ (by omega) (by omega)
theorem CS.keepU (C : CS h s S) (Rd : TRd (top h) r) (hr : s + 40 < r) (p0 : 0 ≤ p) (p1 : p < 2) (p2 : p ≤ sN S 2) (n2 : sN S 2 ≤ 2) (a : HA h (r + 21) T) : ∃ g, m_X9_keep s r (J 2) (J p) h = some g ∧ FR (AKp s) h g ∧ CS g s (kpU S p T) := by
  obtain ⟨P, rfl⟩ : ∃ P : Nat, p = (P : Int) := ⟨p.toNat, by omega⟩
  have P2 : P < 2 := by omega
  have al := alR_ok (h := h) (a := s + 6) (t := 26) (n := 2) (i := (P : Int)) C.1.2.2.2.2.2.1.2.1 C.1.2.2.2.2.2.1.2.2 (by omega) p0 (by omega)
  have it := (C.1.2.2.2.2.2.2 P P2).2.2
  have hrr : hR h (s + 6) ((P : Int)).toNat = s + 22 + 17 * P := it.1
  rw [hrr] at al
  have rA : gfR h r 7 3 = some (r + 21) := gfR_ok Rd.1 Rd.2.2.2.2.1
  obtain ⟨g1, e1, I⟩ := X3_copyFrom_ok (h := h) (c := r + 21) (d := s + 22 + 17 * P) Rd.2.2.2.2.2 it.2 (by omega)
  have k1 := HA.copied I it.2 a
  have F1 := I.1
  have T1 : TS9 (top g1) s := by rw [F1.1]; exact C.1
  have cn : hE g1 (s + 3) 2 = sN S 2 := by rw [F1.e (by omega), C.2.2.2.2.1 2 (by omega) (by omega)]
  have hm := howM T1 cn (by omega) (by omega)
  have mx : m_J9_max_7cf53 (J (sN S 2)) (J ((P : Int) + 1)) g1 = some (J (max (sN S 2) ((P : Int) + 1))) := J9_max_ok (by omega) (by omega) (by omega) (by omega)
  have st : m_X5_set (s + 3) (J 2) (J (max (sN S 2) ((P : Int) + 1))) g1 = some (wE g1 (s + 3) 2 (max (sN S 2) ((P : Int) + 1))) := X5_set_ok T1.2.2.1.2 (by omega) (by omega) (by omega)
  have G : FR (fun b _ => b = s + 3) g1 (wE g1 (s + 3) 2 (max (sN S 2) ((P : Int) + 1))) := FR.wE (A := fun b _ => b = s + 3) rfl
  have FF : FR (fun b _ => b = s + 3 ∨ (s + 22 + 17 * P ≤ b ∧ b ≤ s + 22 + 17 * P + 1)) h (wE g1 (s + 3) 2 (max (sN S 2) ((P : Int) + 1))) := (F1.mono (fun b k q => Or.inr q)).trans (G.mono (fun b k q => Or.inl q))
  have cz : ∀ k, 0 ≤ k → k < 3 → hE (wE g1 (s + 3) 2 (max (sN S 2) ((P : Int) + 1))) (s + 3) k = upN (sN S) 2 (P : Int) k := fun k k0 k1 => by
    rw [hE_wE (by omega) k0 (by omega) (by omega)]
    by_cases q : k = 2
    · rw [if_pos ⟨rfl, q⟩, q, upN_t]
    · rw [if_neg (fun x => q x.2), upN_n q, F1.e (by omega), C.2.2.2.2.1 k k0 k1]
  have ek : m_X9_keep s r (J 2) (J (P : Int)) h = some (wE g1 (s + 3) 2 (max (sN S 2) ((P : Int) + 1))) := by
    have Cr := C.r6
    have T3 : gfR g1 s 9 3 = some (s + 3) := gfR_ok T1.1 T1.2.2.1.1
    have tg1 : hTag g1 s = 9 := T1.1
    have tgd : hTag h (s + 22 + 17 * P) = 4 := it.2.1
    simp (disch := omega) only [m_X9_keep, j_X9_keep_81, Cr, al, rA, rc_ok tgd, e1, T3, rc_ok tg1, hm, mx, st, lm8, lm2, lm1, l0, l1, l2, l3, l4, l5, l6, l7, l8, l9, l10, l11, l12, l13, l14, l15, l16, l17, l18, l19, l20, l21, l22, l23, l24, l25, l27, l31, l32, l40, l46, l48, l50, l57, l59, l63, l86, l96, l97, l100, l110, l114, l122, l127, l200, l255, l300, l319, l320, l340, l441, l456, l580, l600, l800, l886, l1206, l1526, J_add, J_sub, J_mul, J_neg, J_lt, J_le, J_eq, jT, jF, iT, iF, eT, eF, aT, aF, ite_true, ite_false, ite_not, bs]
  generalize wE g1 (s + 3) 2 (max (sN S 2) ((P : Int) + 1)) = g2 at *
  obtain ⟨c1, c2, c3, c4, c5, c6⟩ := C
  have nn : ∀ b : Nat, s ≤ b → (b ≠ s + 3 ∧ (b < s + 22 + 17 * P ∨ s + 22 + 17 * P + 1 < b)) → ¬ (b = s + 3 ∨ (s + 22 + 17 * P ≤ b ∧ b ≤ s + 22 + 17 * P + 1)) := fun b _ q => by omega
  refine ⟨g2, ek, FF.mono (fun b k q => by unfold AKp; omega), by rw [FF.1]; exact c1, c2.frame FF (by omega) (fun k => by omega), ?_, ?_, cz, fun i hi => ⟨fun q => ?_, fun q => ?_, fun q => ?_⟩⟩
  · rw [FF.e (by omega), c3]
    rfl
  · rw [FF.e (by omega), c4]
    rfl
  · have q' : (i : Int) < sN S 0 := by
      have q2 : (i : Int) < upN (sN S) 2 (P : Int) 0 := q
      rw [upN_n (by omega)] at q2
      exact q2
    obtain ⟨a1, a2, a3⟩ := (c6 i hi).1 q'
    refine ⟨?_, ⟨a2.1, fun e v hv => by rw [FF.e (nn _ (by omega) (by omega)), a2.2 e v hv]; rfl⟩, ?_⟩
    · refine a1.frame FF ?_ ?_ (fun k => ?_) (fun k => ?_) (fun k => ?_) (fun k => ?_) (fun k => ?_) (fun k => ?_) <;> exact nn _ (by omega) (by omega)
    · refine a3.frame FF ?_ (fun k => ?_) (fun k => ?_) <;> exact nn _ (by omega) (by omega)
  · have q' : (i : Int) < sN S 1 := by
      have q2 : (i : Int) < upN (sN S) 2 (P : Int) 1 := q
      rw [upN_n (by omega)] at q2
      exact q2
    refine ((c6 i hi).2.1 q').frame FF ?_ (fun k => ?_) (fun k => ?_) (fun k => ?_) (fun k => ?_) <;> exact nn _ (by omega) (by omega)
  · by_cases qi : i = P
    · subst qi
      show HA g2 (s + 22 + 17 * i) (updF (sU S) (i : Int) T i)
      rw [updF_t]
      refine k1.frame G ?_ (fun k => ?_) <;> omega
    · have q' : (i : Int) < max (sN S 2) ((P : Int) + 1) := by
        have q2 : (i : Int) < upN (sN S) 2 (P : Int) 2 := q
        rw [upN_t] at q2
        exact q2
      have ii : (i : Int) ≠ (P : Int) := by omega
      show HA g2 (s + 22 + 17 * i) (updF (sU S) (P : Int) T i)
      rw [updF_n ii]
      refine ((c6 i hi).2.2 (by omega)).frame FF ?_ (fun k => ?_) <;> exact nn _ (by omega) (by omega)
theorem X12_store_ok {b n N : Nat} {k m : Int} (T : TR (top h) o) (tb : TI (top h) b N) (hb : b ≠ o + 9) (hn : n ≤ 1526) (m0 : 0 ≤ m) (hm : (n : Int) * k = m) (mN : m + n ≤ N) (N9 : N < 100000) : ∃ g, m_X12_store o b (J n) (J k) h = some g ∧ FR (fun b' c => b' = b ∧ m.toNat ≤ c ∧ c < m.toNat + n) h g ∧ ∀ i : Int, 0 ≤ i → i < n → hE g b (m + i) = hE h (o + 9) i := by
  obtain ⟨st, ⟨g, rfl, F, z⟩, el⟩ := loop_ex (body := fun (k_ : Int32 × Hp → Option Hp) (s : Int32 × Hp) => b_X12_store_3 o b (J n) (J k) (fun v4q hq => k_ (v4q, hq)) s.1 s.2) (s := (J 0, h)) (fun i st => ∃ g, st = (J i, g) ∧ FR (fun b' c => b' = b ∧ m.toNat ≤ c ∧ c < m.toNat + n) h g ∧ ∀ j, 0 ≤ j → j < i → hE g b (m + j) = hE h (o + 9) j) (fun st => some st.2) n (by omega) (by omega) ⟨h, rfl, FR.refl _ _, fun j j0 j1 => by omega⟩ (by
    rintro k_ i st i0 i1 ⟨g, rfl, F, z⟩
    have tr : TR (top g) o := by rw [F.1]; exact T
    have tbg : TI (top g) b N := by rw [F.1]; exact tb
    have e9 : alI g (o + 9) (J i) = some (J (hE h (o + 9) i)) := by rw [alI_ok tr.a18 i0 (by omega) (by omega), F.e (by omega)]
    have rg := hE_rg h (o + 9) i
    have s1 : asI g b (J (m + i)) (J (hE h (o + 9) i)) = some (wE g b (m + i) (hE h (o + 9) i)) := asI_ok tbg (by omega) (by omega) N9
    refine ⟨(J (i + 1), wE g b (m + i) (hE h (o + 9) i)), ⟨_, rfl, F.trans (FR.wE (A := fun b' c => b' = b ∧ m.toNat ≤ c ∧ c < m.toNat + n) ⟨rfl, by omega, by omega⟩), fun j j0 j1 => ?_⟩, ?_⟩
    · rw [hE_wE (by omega) (by omega) rg.1 rg.2]
      by_cases y : j = i
      · rw [if_pos ⟨rfl, by omega⟩, y]
      · rw [if_neg (by omega), z j j0 (by omega)]
    · show b_X12_store_3 o b (J n) (J k) (fun v4q hq => k_ (v4q, hq)) (J i) g = _
      simp (disch := omega) only [b_X12_store_3, tr.r18, e9, hm, s1, lm8, lm2, lm1, l0, l1, l2, l3, l4, l5, l6, l7, l8, l9, l10, l11, l12, l13, l14, l15, l16, l17, l18, l19, l20, l21, l22, l23, l24, l25, l27, l31, l32, l40, l46, l48, l50, l57, l59, l63, l86, l96, l97, l100, l110, l114, l122, l127, l200, l255, l300, l319, l320, l340, l441, l456, l580, l600, l800, l886, l1206, l1526, J_add, J_sub, J_mul, J_neg, J_lt, J_le, J_eq, jT, jF, iT, iF, eT, eF, aT, aF, ite_true, ite_false, ite_not, bs]) (by
    rintro k_ st ⟨g, rfl, -⟩
    show b_X12_store_3 o b (J n) (J k) (fun v4q hq => k_ (v4q, hq)) (J n) g = _
    simp (disch := omega) only [b_X12_store_3, lm8, lm2, lm1, l0, l1, l2, l3, l4, l5, l6, l7, l8, l9, l10, l11, l12, l13, l14, l15, l16, l17, l18, l19, l20, l21, l22, l23, l24, l25, l27, l31, l32, l40, l46, l48, l50, l57, l59, l63, l86, l96, l97, l100, l110, l114, l122, l127, l200, l255, l300, l319, l320, l340, l441, l456, l580, l600, l800, l886, l1206, l1526, J_add, J_sub, J_mul, J_neg, J_lt, J_le, J_eq, jT, jF, iT, iF, eT, eF, aT, aF, ite_true, ite_false, ite_not, bs])
  exact ⟨g, el, F, z⟩
end KP
