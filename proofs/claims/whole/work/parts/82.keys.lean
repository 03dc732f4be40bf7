/-! PURE PART: letters as longs -/
def ltM (B : Int → Int) (f : Int) : Nat → Nat
  | 0 => 0
  | n + 1 => ltM B f n * 256 + (B (f + n)).toNat
theorem ltM_lt {B : Int → Int} {f : Int} : ∀ {n : Nat}, (∀ j : Nat, j < n → 97 ≤ B (f + j) ∧ B (f + j) ≤ 122) → 2 * ltM B f n < 256 ^ n
  | 0, _ => Nat.le_of_ble_eq_true rfl
  | n + 1, hl => by
    have ih := ltM_lt (n := n) (fun j hj => hl j (by omega))
    have h := hl n (by omega)
    unfold ltM
    rw [Nat.pow_succ]
    omega
theorem ltM_lt63 {B : Int → Int} {f : Int} {n : Nat} (hn : n ≤ 8) (hl : ∀ j : Nat, j < n → 97 ≤ B (f + j) ∧ B (f + j) ≤ 122) : ltM B f n < 2 ^ 63 := by
  have := ltM_lt hl
  have h2 : 256 ^ n ≤ 256 ^ 8 := Nat.pow_le_pow_right (by decide) hn
  have h3 : (256 : Nat) ^ 8 = 2 * 2 ^ 63 := by decide
  omega
theorem ltI_L {B : Int → Int} {f : Int} : ∀ {n : Nat}, n ≤ 8 → (∀ j : Nat, j < n → 97 ≤ B (f + j) ∧ B (f + j) ≤ 122) → ltI B f n = L (ltM B f n)
  | 0, _, _ => rfl
  | n + 1, hn, hl => by
    have hl' : ∀ j : Nat, j < n → 97 ≤ B (f + j) ∧ B (f + j) ≤ 122 := fun j hj => hl j (by omega)
    have ih := ltI_L (n := n) (by omega) hl'
    have h := hl n (by omega)
    have hb := ltM_lt hl'
    have h2 : 256 ^ n ≤ 256 ^ 7 := Nat.pow_le_pow_right (by decide) (by omega)
    have h3 : (256 : Nat) ^ 7 * 256 = 2 ^ 64 := by decide
    have e1 : Int32.toInt64 (J (B (f + n))) = L (B (f + n)).toNat := by
      have := L_toI64 (m := (B (f + n)).toNat) (by have : (B (f + n)).toNat ≤ 122 := by omega
                                                   have : (122 : Nat) < 2 ^ 31 := by decide
                                                   omega)
      rw [show (((B (f + n)).toNat : Nat) : Int) = B (f + n) by omega] at this
      exact this
    have e2 : 2 ^ (8 : Int).toNat = 256 := by decide
    show lshlF (ltI B f n) (J 8) ||| Int32.toInt64 (J (B (f + n))) = L (ltM B f n * 256 + (B (f + n)).toNat)
    rw [ih, L_shl (by omega) (by omega), e2, e1, L_or (by omega) (by omega)]
    refine congrArg L ?_
    have := Nat.two_pow_add_eq_or_of_lt (i := 8) (b := (B (f + n)).toNat) (by have : (B (f + n)).toNat ≤ 122 := by omega
                                                                              have : (122 : Nat) < 2 ^ 8 := by decide
                                                                              omega) (ltM B f n)
    rw [show (2 : Nat) ^ 8 = 256 by decide, Nat.mul_comm 256] at this
    exact this.symm
theorem ltM_inj {B C : Int → Int} {f g : Int} : ∀ {n m : Nat}, (∀ j : Nat, j < n → 1 ≤ B (f + j) ∧ B (f + j) ≤ 127) → (∀ j : Nat, j < m → 1 ≤ C (g + j) ∧ C (g + j) ≤ 127) → ltM B f n = ltM C g m → n = m ∧ ∀ j : Nat, j < n → B (f + j) = C (g + j)
  | 0, 0, _, _, _ => ⟨rfl, fun j hj => absurd hj (Nat.not_lt_zero _)⟩
  | 0, m + 1, _, hc, h => by
    have := hc m (by omega)
    unfold ltM at h
    omega
  | n + 1, 0, hb, _, h => by
    have := hb n (by omega)
    unfold ltM at h
    omega
  | n + 1, m + 1, hb, hc, h => by
    have b := hb n (by omega)
    have c := hc m (by omega)
    have h' : ltM B f n * 256 + (B (f + n)).toNat = ltM C g m * 256 + (C (g + m)).toNat := h
    have ih := ltM_inj (n := n) (m := m) (fun j hj => hb j (by omega)) (fun j hj => hc j (by omega)) (by omega)
    have hnm := ih.1
    refine ⟨by omega, fun j hj => ?_⟩
    by_cases hj2 : j < n
    · exact ih.2 j hj2
    · have : j = n := by omega
      rw [this]
      have e2 : (m : Int) = n := by omega
      rw [e2] at c h'
      omega
/-- the same digits give the same number -/
theorem ltM_congr {B C : Int → Int} {f g : Int} : ∀ {n : Nat}, (∀ j : Nat, j < n → B (f + j) = C (g + j)) → ltM B f n = ltM C g n
  | 0, _ => rfl
  | n + 1, h => by
    unfold ltM
    rw [ltM_congr (n := n) (fun j hj => h j (by omega)), h n (by omega)]
def kwV (k : Int) : Nat := ltM (kwC k) 0 (kwL k).toNat
theorem kwV_eq : ∀ k : Fin 15, kwV ((k : Nat) : Int) = [123593897898853, 1852137842, 1835101817, 7237492, 1702258034, 7234935, 6385252, 28530, 6582115, 7370100, 6518132, 1836021349, 1650549611, 26990, 7304564].getD k 0 := by decide +kernel
theorem kwC_pos : ∀ k : Fin 15, ∀ j : Fin 6, (j : Nat) < (kwT.getD k []).length → 97 ≤ (kwT.getD k []).getD j 0 ∧ (kwT.getD k []).getD j 0 ≤ 122 := by decide
theorem kwC_let {k j : Int} (k0 : 0 ≤ k) (k1 : k < 15) (j0 : 0 ≤ j) (j1 : j < kwL k) : 97 ≤ kwC k j ∧ kwC k j ≤ 122 := by
  have hl := kwL_ok k0 k1
  have h : kwL k = ((kwT.getD k.toNat []).length : Nat) := rfl
  have := kwC_pos ⟨k.toNat, by omega⟩ ⟨j.toNat, by omega⟩ (by show j.toNat < (kwT.getD k.toNat []).length; omega)
  simp only at this
  unfold kwC
  omega
theorem kwB_iff {B : Int → Int} {f t k : Int} (k0 : 0 ≤ k) (k1 : k < 15) : kwB B f t k = true ↔ t - f = kwL k ∧ ∀ j, 0 ≤ j → j < kwL k → B (f + j) = kwC k j := by
  have hl := kwL_ok k0 k1
  unfold kwB
  rw [Bool.and_eq_true, decide_eq_true_iff, decide_eq_true_iff]
  refine ⟨fun ⟨h1, h2⟩ => ⟨h1, fun j j0 j1 => ?_⟩, fun ⟨h1, h2⟩ => ⟨h1, ?_⟩⟩
  · rcases fiZ_spec (kwL k) (fun j => decide (B (f + j) ≠ kwC k j)) with ⟨e1, e2⟩ | ⟨e1, e2, e3, e4⟩
    · have := e2 j j0 j1
      simpa using this
    · omega
  · rcases fiZ_spec (kwL k) (fun j => decide (B (f + j) ≠ kwC k j)) with ⟨e1, e2⟩ | ⟨e1, e2, e3, e4⟩
    · exact e1
    · have := h2 _ e1 e2
      simp only [decide_eq_true_iff] at e3
      exact absurd this e3
/-- the reference finds a keyword where the class does -/
theorem lt_kw {B : Int → Int} {L0 f k : Int} (k0 : 0 ≤ k) (k1 : k < 15) (f1 : f ≤ L0) : (lg_cmp (ltF B L0 f) (L (kwV k)) = 0) = (ckF B L0 f = 1 ∧ kwB B f (toF B L0 f) k = true) := by
  have hl := kwL_ok k0 k1
  have hk63 : kwV k < 2 ^ 63 := ltM_lt63 (by omega) (fun j hj => by
    rw [Int.zero_add]
    exact kwC_let k0 k1 (by omega) (by omega))
  have hkpos : 0 < kwV k := by
    unfold kwV
    rw [show (kwL k).toNat = ((kwL k).toNat - 1) + 1 by omega]
    have := kwC_let k0 k1 (j := 0 + (((kwL k).toNat - 1 : Nat) : Int)) (by omega) (by omega)
    unfold ltM
    omega
  have hz : (lg_cmp (0 : Int64) (L (kwV k)) = 0) = (0 = kwV k) := lcmp (a := 0) (by decide) hk63
  unfold ltF
  by_cases c : rkF B L0 f = 2
  · rw [if_pos c]
    have cl : f < L0 ∧ leB (B f) = true := by
      unfold rkF at c
      by_cases c1 : L0 ≤ f
      · rw [if_pos c1] at c
        omega
      · rw [if_neg c1] at c
        by_cases c2 : leB (B f) = true
        · exact ⟨by omega, c2⟩
        · rw [if_neg c2] at c
          by_cases c3 : diB (B f) = true
          · rw [if_pos c3] at c
            split at c <;> omega
          · rw [if_neg c3] at c
            split at c <;> omega
    have ck : ckF B L0 f = 1 := by unfold ckF; rw [if_neg (by omega), if_pos cl.2]
    have et : toF B L0 f = adv (fun k => leB (B k)) L0 f := by unfold toF; rw [if_neg (by omega), if_pos cl.2]
    obtain ⟨u1, u2, u3, -⟩ := adv_spec (fun k => leB (B k)) f1
    rw [← et] at u1 u2 u3
    generalize toF B L0 f = t at *
    have hlet : ∀ p, f ≤ p → p < t → 97 ≤ B p ∧ B p ≤ 122 := fun p p0 p1 => by
      have : leB (B p) = true := u3 p p0 p1
      unfold leB at this
      exact of_decide_eq_true this
    by_cases c8 : t - f ≤ 8
    · rw [if_pos c8]
      have hj : ∀ j : Nat, j < (t - f).toNat → 97 ≤ B (f + j) ∧ B (f + j) ≤ 122 := fun j hj => hlet _ (by omega) (by omega)
      rw [ltI_L (by omega) hj, lcmp (ltM_lt63 (by omega) hj) hk63]
      refine propext ⟨fun q => ⟨ck, (kwB_iff k0 k1).mpr ?_⟩, fun ⟨_, q⟩ => ?_⟩
      · have := ltM_inj (B := B) (C := kwC k) (f := f) (g := 0) (n := (t - f).toNat) (m := (kwL k).toNat) (fun j hj2 => by have := hj j hj2; omega) (fun j hj2 => by
          rw [Int.zero_add]
          have := kwC_let k0 k1 (j := (j : Int)) (by omega) (by omega)
          omega) q
        refine ⟨by have := this.1; omega, fun j j0 j1 => ?_⟩
        have h2 := this.2 j.toNat (by have := this.1; omega)
        rw [Int.zero_add, show ((j.toNat : Nat) : Int) = j by omega] at h2
        exact h2
      · have q2 := (kwB_iff k0 k1).mp q
        unfold kwV
        rw [q2.1]
        refine ltM_congr (fun j hj2 => ?_)
        rw [Int.zero_add]
        exact q2.2 j (by omega) (by omega)
    · rw [if_neg c8, hz]
      refine propext ⟨fun q => by omega, fun ⟨_, q⟩ => ?_⟩
      have := ((kwB_iff k0 k1).mp q).1
      omega
  · rw [if_neg c, hz]
    refine propext ⟨fun q => by omega, fun ⟨q, _⟩ => ?_⟩
    refine absurd ?_ c
    unfold ckF at q
    unfold rkF
    by_cases c1 : L0 ≤ f
    · rw [if_pos c1] at q
      omega
    · rw [if_neg c1] at q
      rw [if_neg c1]
      by_cases c2 : leB (B f) = true
      · rw [if_pos c2]
      · rw [if_neg c2] at q
        by_cases c3 : diB (B f) = true
        · rw [if_pos c3] at q
          split at q <;> omega
        · rw [if_neg c3] at q
          split at q <;> omega
