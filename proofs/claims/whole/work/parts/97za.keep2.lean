/-! PURE PART: a text kept, the reference; the state set anew -/
section RK2
variable {h g : Hp} {s o x r : Nat} {S : Sx} {p w L f t : Int} {T : Int → Int}
theorem CS.reh (C : CS h s S) (F : FR (fun b k => (b = s ∧ (k = 1 ∨ k = 2)) ∨ (b = s + 1 ∧ k = 1)) h g) (e1 : hE g (s + 1) 1 = L) (e2 : hE g s 1 = f) (e3 : hE g s 2 = p) (L0 : 0 ≤ L ∧ L ≤ 600) : CS g s (sB S, L, f, p, S.2.2.2.2) := by
  obtain ⟨c1, c2, c3, c4, c5, c6⟩ := C
  have nn : ∀ b k : Nat, s + 2 ≤ b → ¬ ((b = s ∧ (k = 1 ∨ k = 2)) ∨ (b = s + 1 ∧ k = 1)) := fun b k _ q => by omega
  refine ⟨by rw [F.1]; exact c1, ⟨by rw [F.1]; exact c2.1, ⟨L0.1, L0.2, c2.2.1.2.2⟩, e1, fun k k0 k1 => by rw [F.e (nn _ _ (by omega)), c2.2.2.2 k k0 k1]; rfl⟩, e2, e3, fun k k0 k1 => ?_, fun i hi => ⟨fun q => ?_, fun q => ?_, fun q => ?_⟩⟩
  · rw [F.e (nn _ _ (by omega)), c5 k k0 k1]
    rfl
  · obtain ⟨a1, a2, a3⟩ := (c6 i hi).1 q
    refine ⟨?_, ⟨a2.1, fun e v hv => by rw [F.e (nn _ _ (by omega)), a2.2 e v hv]; rfl⟩, ?_⟩
    · refine a1.frame F ?_ ?_ (fun k => ?_) (fun k => ?_) (fun k => ?_) (fun k => ?_) (fun k => ?_) (fun k => ?_) <;> exact nn _ _ (by omega)
    · refine a3.frame F ?_ (fun k => ?_) (fun k => ?_) <;> exact nn _ _ (by omega)
  · refine ((c6 i hi).2.1 q).frame F ?_ (fun k => ?_) (fun k => ?_) (fun k => ?_) (fun k => ?_) <;> exact nn _ _ (by omega)
  · refine ((c6 i hi).2.2 q).frame F ?_ (fun k => ?_) <;> exact nn _ _ (by omega)
/-- what the reference works with, but for its first image's rows -/
def Awk (o b k : Nat) : Prop := b = o ∨ ((b = o + 2 ∨ b = o + 3 ∨ b = o + 4) ∧ k = 0) ∨ (o + 9 ≤ b ∧ b ≤ o + 15)
theorem RS.reh (R : RS h o 0 S) (F : FR (Awk o) h g) (e1 : hE g (o + 2) 0 = L) (e2 : hE g (o + 3) 0 = f) (e3 : hE g (o + 4) 0 = p) : RS g o 0 (sB S, L, f, p, S.2.2.2.2) := by
  obtain ⟨r1, r2, r3, r4, r5, r6, r7, r8, r9⟩ := R
  have nn : ∀ b k : Nat, (b = o + 1 ∨ (o + 5 ≤ b ∧ b ≤ o + 8)) → ¬ Awk o b k := fun b k _ q => by
    unfold Awk at q
    omega
  refine ⟨by rw [F.1]; exact r1, fun k k0 k1 => ?_, e1, e2, e3, fun k k0 k1 => ?_, fun i i0 i1 q c d0 d1 => ?_, fun i i0 i1 q c d0 d1 => ?_, fun i i0 i1 q c d0 d1 => ?_⟩
  · rw [F.e (nn _ _ (by omega)), r2 k k0 k1]
    rfl
  · rw [F.e (nn _ _ (by omega)), r6 k k0 k1]
    rfl
  · rw [F.e (nn _ _ (by omega)), r7 i i0 i1 q c d0 d1]
    rfl
  · rw [F.e (nn _ _ (by omega)), r8 i i0 i1 q c d0 d1]
    rfl
  · rw [F.e (nn _ _ (by omega)), r9 i i0 i1 q c d0 d1]
    rfl
theorem SW.reh (W : SW S) (L0 : 0 ≤ L ∧ L ≤ 600) (f0 : 0 ≤ f ∧ f ≤ 4 ∧ -1 ≤ p ∧ p ≤ 600) : SW (sB S, L, f, p, S.2.2.2.2) := ⟨⟨L0.1, L0.2, W.1.2.2⟩, f0, W.2.2⟩
theorem up_rg {N : Int → Int} {u : Int} (W : ∀ k, 0 ≤ k → k < 3 → 0 ≤ N k ∧ N k ≤ 2) (p1 : p < 2) (p0 : 0 ≤ p) : ∀ k, 0 ≤ k → k < 3 → 0 ≤ upN N u p k ∧ upN N u p k ≤ 2 := fun k k0 k1 => by
  have := W k k0 k1
  by_cases c : k = u
  · subst c
    rw [upN_t]
    omega
  · rw [upN_n c]
    exact this
theorem SW.kpA (W : SW S) (p0 : 0 ≤ p) (p1 : p < 2) (p2 : p ≤ sN S 0) (a : AW T ∧ DW T ∧ T 5 ≤ 279) : SW (kpA S p T) := by
  refine ⟨W.1, W.2.1, up_rg W.2.2.1 p1 p0, fun i i0 i1 => ⟨fun q => ?_, fun q => ?_, fun q => ?_⟩⟩
  · show AW (updF (sT S) p T i) ∧ DW (updF (sT S) p T i) ∧ updF (sT S) p T i 5 ≤ 279
    have q2 : i < upN (sN S) 0 p 0 := q
    rw [upN_t] at q2
    by_cases c : i = p
    · subst c
      rw [updF_t]
      exact a
    · rw [updF_n c]
      exact (W.2.2.2 i i0 i1).1 (by omega)
  · exact (W.2.2.2 i i0 i1).2.1 (by have q2 : i < upN (sN S) 0 p 1 := q; rw [upN_n (by omega)] at q2; exact q2)
  · exact (W.2.2.2 i i0 i1).2.2 (by have q2 : i < upN (sN S) 0 p 2 := q; rw [upN_n (by omega)] at q2; exact q2)
theorem SW.kpQ (W : SW S) (p0 : 0 ≤ p) (p1 : p < 2) (p2 : p ≤ sN S 1) (a : QW T) : SW (kpQ S p T) := by
  refine ⟨W.1, W.2.1, up_rg W.2.2.1 p1 p0, fun i i0 i1 => ⟨fun q => ?_, fun q => ?_, fun q => ?_⟩⟩
  · exact (W.2.2.2 i i0 i1).1 (by have q2 : i < upN (sN S) 1 p 0 := q; rw [upN_n (by omega)] at q2; exact q2)
  · show QW (updF (sQ S) p T i)
    have q2 : i < upN (sN S) 1 p 1 := q
    rw [upN_t] at q2
    by_cases c : i = p
    · subst c
      rw [updF_t]
      exact a
    · rw [updF_n c]
      exact (W.2.2.2 i i0 i1).2.1 (by omega)
  · exact (W.2.2.2 i i0 i1).2.2 (by have q2 : i < upN (sN S) 1 p 2 := q; rw [upN_n (by omega)] at q2; exact q2)
theorem SW.kpU (W : SW S) (p0 : 0 ≤ p) (p1 : p < 2) (p2 : p ≤ sN S 2) (a : HWf T) : SW (kpU S p T) := by
  refine ⟨W.1, W.2.1, up_rg W.2.2.1 p1 p0, fun i i0 i1 => ⟨fun q => ?_, fun q => ?_, fun q => ?_⟩⟩
  · exact (W.2.2.2 i i0 i1).1 (by have q2 : i < upN (sN S) 2 p 0 := q; rw [upN_n (by omega)] at q2; exact q2)
  · exact (W.2.2.2 i i0 i1).2.1 (by have q2 : i < upN (sN S) 2 p 1 := q; rw [upN_n (by omega)] at q2; exact q2)
  · show HWf (updF (sU S) p T i)
    have q2 : i < upN (sN S) 2 p 2 := q
    rw [upN_t] at q2
    by_cases c : i = p
    · subst c
      rw [updF_t]
      exact a
    · rw [updF_n c]
      exact (W.2.2.2 i i0 i1).2.2 (by omega)
theorem RS.keepA (R : RS h o 0 S) (p0 : 0 ≤ p) (p1 : p < 2) (p2 : p ≤ sN S 0) (n2 : sN S 0 ≤ 2) (z : ∀ c, 0 ≤ c → c < 1526 → hE h (o + 9) c = T c) : ∃ g1 g, asI h (o + 5) (J 0) (J (max (sN S 0) (p + 1))) = some g1 ∧ TR (top g1) o ∧ m_X12_store o (o + 6) (J 1526) (J p) g1 = some g ∧ FR (A0 o) h g ∧ RS g o 0 (kpA S p T) := by
  obtain ⟨r1, r2, r3, r4, r5, r6, r7, r8, r9⟩ := R
  have a1 : asI h (o + 5) (J 0) (J (max (sN S 0) (p + 1))) = some (wE h (o + 5) 0 (max (sN S 0) (p + 1))) := asI_ok r1.a5 (by omega) (by omega) (by omega)
  have F1 : FR (fun b k => b = o + 5 ∧ k = 0) h (wE h (o + 5) 0 (max (sN S 0) (p + 1))) := FR.wE (A := fun b k => b = o + 5 ∧ k = 0) ⟨rfl, rfl⟩
  have c1 : ∀ k, 0 ≤ k → k < 3 → hE (wE h (o + 5) 0 (max (sN S 0) (p + 1))) (o + 5) k = upN (sN S) 0 p k := fun k k0 k1 => by
    rw [hE_wE (by omega) k0 (by omega) (by omega)]
    by_cases q : k = 0
    · rw [if_pos ⟨rfl, q⟩, q, upN_t]
    · have := r6 k k0 k1
      rw [show 3 * (0 : Int) + k = k by omega] at this
      rw [if_neg (fun y => q y.2), upN_n q, this]
  generalize wE h (o + 5) 0 (max (sN S 0) (p + 1)) = g1 at *
  have T1 : TR (top g1) o := by rw [F1.1]; exact r1
  obtain ⟨g, e2, F2, z2⟩ := X12_store_ok (h := g1) (o := o) (b := o + 6) (n := 1526) (N := 12208) (k := p) (m := 1526 * p) T1 T1.a6 (by omega) (by omega) (by omega) (by omega) (by omega) (by omega)
  have FF : FR (fun b k => (b = o + 5 ∧ k = 0) ∨ (b = o + 6 ∧ (1526 * p).toNat ≤ k ∧ k < (1526 * p).toNat + 1526)) h g := (F1.mono (fun b k q => Or.inl q)).trans (F2.mono (fun b k q => Or.inr q))
  refine ⟨g1, g, a1, T1, e2, FF.mono (fun b k q => by unfold A0; omega), by rw [FF.1]; exact r1, fun k k0 k1 => ?_, ?_, ?_, ?_, fun k k0 k1 => ?_, fun i i0 i1 q c d0 d1 => ?_, fun i i0 i1 q c d0 d1 => ?_, fun i i0 i1 q c d0 d1 => ?_⟩
  · rw [FF.e (by omega), r2 k k0 k1]
    rfl
  · rw [FF.e (by omega), r3]
    rfl
  · rw [FF.e (by omega), r4]
    rfl
  · rw [FF.e (by omega), r5]
    rfl
  · rw [show 3 * (0 : Int) + k = k by omega, F2.e (by omega), c1 k k0 k1]
    rfl
  · have q2 : i < upN (sN S) 0 p 0 := q
    rw [upN_t] at q2
    show hE g (o + 6) (3052 * 0 + (1526 * i + c)) = updF (sT S) p T i c
    by_cases ci : i = p
    · subst ci
      rw [updF_t, show 3052 * (0 : Int) + (1526 * i + c) = 1526 * i + c by omega, z2 c d0 d1, F1.e (by omega), z c d0 d1]
    · rw [updF_n ci, FF.e (by omega), r7 i i0 i1 (by omega) c d0 d1]
  · have q2 : i < upN (sN S) 0 p 1 := q
    rw [upN_n (by omega)] at q2
    rw [FF.e (by omega), r8 i i0 i1 q2 c d0 d1]
    rfl
  · have q2 : i < upN (sN S) 0 p 2 := q
    rw [upN_n (by omega)] at q2
    rw [FF.e (by omega), r9 i i0 i1 q2 c d0 d1]
    rfl
theorem RS.keepQ (R : RS h o 0 S) (p0 : 0 ≤ p) (p1 : p < 2) (p2 : p ≤ sN S 1) (n2 : sN S 1 ≤ 2) (z : ∀ c, 0 ≤ c → c < 57 → hE h (o + 9) c = T c) : ∃ g1 g, asI h (o + 5) (J 1) (J (max (sN S 1) (p + 1))) = some g1 ∧ TR (top g1) o ∧ m_X12_store o (o + 7) (J 57) (J p) g1 = some g ∧ FR (A0 o) h g ∧ RS g o 0 (kpQ S p T) := by
  obtain ⟨r1, r2, r3, r4, r5, r6, r7, r8, r9⟩ := R
  have a1 : asI h (o + 5) (J 1) (J (max (sN S 1) (p + 1))) = some (wE h (o + 5) 1 (max (sN S 1) (p + 1))) := asI_ok r1.a5 (by omega) (by omega) (by omega)
  have F1 : FR (fun b k => b = o + 5 ∧ k = 1) h (wE h (o + 5) 1 (max (sN S 1) (p + 1))) := FR.wE (A := fun b k => b = o + 5 ∧ k = 1) ⟨rfl, rfl⟩
  have c1 : ∀ k, 0 ≤ k → k < 3 → hE (wE h (o + 5) 1 (max (sN S 1) (p + 1))) (o + 5) k = upN (sN S) 1 p k := fun k k0 k1 => by
    rw [hE_wE (by omega) k0 (by omega) (by omega)]
    by_cases q : k = 1
    · rw [if_pos ⟨rfl, q⟩, q, upN_t]
    · have := r6 k k0 k1
      rw [show 3 * (0 : Int) + k = k by omega] at this
      rw [if_neg (fun y => q y.2), upN_n q, this]
  generalize wE h (o + 5) 1 (max (sN S 1) (p + 1)) = g1 at *
  have T1 : TR (top g1) o := by rw [F1.1]; exact r1
  obtain ⟨g, e2, F2, z2⟩ := X12_store_ok (h := g1) (o := o) (b := o + 7) (n := 57) (N := 456) (k := p) (m := 57 * p) T1 T1.a7 (by omega) (by omega) (by omega) (by omega) (by omega) (by omega)
  have FF : FR (fun b k => (b = o + 5 ∧ k = 1) ∨ (b = o + 7 ∧ (57 * p).toNat ≤ k ∧ k < (57 * p).toNat + 57)) h g := (F1.mono (fun b k q => Or.inl q)).trans (F2.mono (fun b k q => Or.inr q))
  refine ⟨g1, g, a1, T1, e2, FF.mono (fun b k q => by unfold A0; omega), by rw [FF.1]; exact r1, fun k k0 k1 => ?_, ?_, ?_, ?_, fun k k0 k1 => ?_, fun i i0 i1 q c d0 d1 => ?_, fun i i0 i1 q c d0 d1 => ?_, fun i i0 i1 q c d0 d1 => ?_⟩
  · rw [FF.e (by omega), r2 k k0 k1]
    rfl
  · rw [FF.e (by omega), r3]
    rfl
  · rw [FF.e (by omega), r4]
    rfl
  · rw [FF.e (by omega), r5]
    rfl
  · rw [show 3 * (0 : Int) + k = k by omega, F2.e (by omega), c1 k k0 k1]
    rfl
  · have q2 : i < upN (sN S) 1 p 0 := q
    rw [upN_n (by omega)] at q2
    rw [FF.e (by omega), r7 i i0 i1 q2 c d0 d1]
    rfl
  · have q2 : i < upN (sN S) 1 p 1 := q
    rw [upN_t] at q2
    show hE g (o + 7) (114 * 0 + (57 * i + c)) = updF (sQ S) p T i c
    by_cases ci : i = p
    · subst ci
      rw [updF_t, show 114 * (0 : Int) + (57 * i + c) = 57 * i + c by omega, z2 c d0 d1, F1.e (by omega), z c d0 d1]
    · rw [updF_n ci, FF.e (by omega), r8 i i0 i1 (by omega) c d0 d1]
  · have q2 : i < upN (sN S) 1 p 2 := q
    rw [upN_n (by omega)] at q2
    rw [FF.e (by omega), r9 i i0 i1 q2 c d0 d1]
    rfl
theorem RS.keepU (R : RS h o 0 S) (p0 : 0 ≤ p) (p1 : p < 2) (p2 : p ≤ sN S 2) (n2 : sN S 2 ≤ 2) (z : ∀ c, 0 ≤ c → c < 25 → hE h (o + 9) c = T c) : ∃ g1 g, asI h (o + 5) (J 2) (J (max (sN S 2) (p + 1))) = some g1 ∧ TR (top g1) o ∧ m_X12_store o (o + 8) (J 25) (J p) g1 = some g ∧ FR (A0 o) h g ∧ RS g o 0 (kpU S p T) := by
  obtain ⟨r1, r2, r3, r4, r5, r6, r7, r8, r9⟩ := R
  have a1 : asI h (o + 5) (J 2) (J (max (sN S 2) (p + 1))) = some (wE h (o + 5) 2 (max (sN S 2) (p + 1))) := asI_ok r1.a5 (by omega) (by omega) (by omega)
  have F1 : FR (fun b k => b = o + 5 ∧ k = 2) h (wE h (o + 5) 2 (max (sN S 2) (p + 1))) := FR.wE (A := fun b k => b = o + 5 ∧ k = 2) ⟨rfl, rfl⟩
  have c1 : ∀ k, 0 ≤ k → k < 3 → hE (wE h (o + 5) 2 (max (sN S 2) (p + 1))) (o + 5) k = upN (sN S) 2 p k := fun k k0 k1 => by
    rw [hE_wE (by omega) k0 (by omega) (by omega)]
    by_cases q : k = 2
    · rw [if_pos ⟨rfl, q⟩, q, upN_t]
    · have := r6 k k0 k1
      rw [show 3 * (0 : Int) + k = k by omega] at this
      rw [if_neg (fun y => q y.2), upN_n q, this]
  generalize wE h (o + 5) 2 (max (sN S 2) (p + 1)) = g1 at *
  have T1 : TR (top g1) o := by rw [F1.1]; exact r1
  obtain ⟨g, e2, F2, z2⟩ := X12_store_ok (h := g1) (o := o) (b := o + 8) (n := 25) (N := 200) (k := p) (m := 25 * p) T1 T1.a8 (by omega) (by omega) (by omega) (by omega) (by omega) (by omega)
  have FF : FR (fun b k => (b = o + 5 ∧ k = 2) ∨ (b = o + 8 ∧ (25 * p).toNat ≤ k ∧ k < (25 * p).toNat + 25)) h g := (F1.mono (fun b k q => Or.inl q)).trans (F2.mono (fun b k q => Or.inr q))
  refine ⟨g1, g, a1, T1, e2, FF.mono (fun b k q => by unfold A0; omega), by rw [FF.1]; exact r1, fun k k0 k1 => ?_, ?_, ?_, ?_, fun k k0 k1 => ?_, fun i i0 i1 q c d0 d1 => ?_, fun i i0 i1 q c d0 d1 => ?_, fun i i0 i1 q c d0 d1 => ?_⟩
  · rw [FF.e (by omega), r2 k k0 k1]
    rfl
  · rw [FF.e (by omega), r3]
    rfl
  · rw [FF.e (by omega), r4]
    rfl
  · rw [FF.e (by omega), r5]
    rfl
  · rw [show 3 * (0 : Int) + k = k by omega, F2.e (by omega), c1 k k0 k1]
    rfl
  · have q2 : i < upN (sN S) 2 p 0 := q
    rw [upN_n (by omega)] at q2
    rw [FF.e (by omega), r7 i i0 i1 q2 c d0 d1]
    rfl
  · have q2 : i < upN (sN S) 2 p 1 := q
    rw [upN_n (by omega)] at q2
    rw [FF.e (by omega), r8 i i0 i1 q2 c d0 d1]
    rfl
  · have q2 : i < upN (sN S) 2 p 2 := q
    rw [upN_t] at q2
    show hE g (o + 8) (50 * 0 + (25 * i + c)) = updF (sU S) p T i c
    by_cases ci : i = p
    · subst ci
      rw [updF_t, show 50 * (0 : Int) + (25 * i + c) = 25 * i + c by omega, z2 c d0 d1, F1.e (by omega), z c d0 d1]
    · rw [updF_n ci, FF.e (by omega), r9 i i0 i1 (by omega) c d0 d1]
end RK2
