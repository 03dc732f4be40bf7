/-! PURE PART: what changes and what not; cells of 64 bits; how many bits -/
/-- h' is h but at the cells that A names -/
def FR (A : Nat → Nat → Prop) (h h' : Hp) : Prop := top h' = top h ∧ hTop h' = hTop h ∧ hUsed h' = hUsed h ∧ ∀ b k, ¬ A b k → hI h' b k = hI h b k ∧ hJ h' b k = hJ h b k
theorem FR.refl (A : Nat → Nat → Prop) (h : Hp) : FR A h h := ⟨rfl, rfl, rfl, fun _ _ _ => ⟨rfl, rfl⟩⟩
theorem FR.trans {A : Nat → Nat → Prop} {h h' h'' : Hp} (H : FR A h h') (G : FR A h' h'') : FR A h h'' := ⟨G.1.trans H.1, G.2.1.trans H.2.1, G.2.2.1.trans H.2.2.1, fun b k n => ⟨(G.2.2.2 b k n).1.trans (H.2.2.2 b k n).1, (G.2.2.2 b k n).2.trans (H.2.2.2 b k n).2⟩⟩
theorem FR.mono {A B : Nat → Nat → Prop} {h h' : Hp} (H : FR A h h') (s : ∀ b k, A b k → B b k) : FR B h h' := ⟨H.1, H.2.1, H.2.2.1, fun b k n => H.2.2.2 b k (fun q => n (s b k q))⟩
theorem FR.wE {A : Nat → Nat → Prop} {h : Hp} {a : Nat} {i z : Int} (q : A a i.toNat) : FR A h (wE h a i z) := by
  refine ⟨rfl, rfl, rfl, fun b k n => ⟨?_, rfl⟩⟩
  rw [hI_setI]
  unfold up2
  by_cases hb : b = a
  · subst hb
    rw [if_pos rfl]
    by_cases hk : k = i.toNat
    · subst hk
      exact absurd q n
    · rw [if_neg hk]
  · rw [if_neg hb]
abbrev wJ (h : Hp) (a : Nat) (i : Int) (x : Int64) : Hp := setJ h a i.toNat x
theorem FR.wJ {A : Nat → Nat → Prop} {h : Hp} {a : Nat} {i : Int} {x : Int64} (q : A a i.toNat) : FR A h (wJ h a i x) := by
  refine ⟨rfl, rfl, rfl, fun b k n => ⟨rfl, ?_⟩⟩
  rw [hJ_setJ]
  unfold up2
  by_cases hb : b = a
  · subst hb
    rw [if_pos rfl]
    by_cases hk : k = i.toNat
    · subst hk
      exact absurd q n
    · rw [if_neg hk]
  · rw [if_neg hb]
theorem FR.e {A : Nat → Nat → Prop} {h h' : Hp} (H : FR A h h') {b : Nat} {i : Int} (n : ¬ A b i.toNat) : hE h' b i = hE h b i := by
  unfold hE
  rw [(H.2.2.2 b i.toNat n).1]
theorem FR.tag {A : Nat → Nat → Prop} {h h' : Hp} (H : FR A h h') (o : Nat) : hTag h' o = hTag h o := congrFun (congrArg (fun t : Tp => t.1) H.1) o
def hL (h : Hp) (a : Nat) (i : Int) : Int64 := hJ h a i.toNat
theorem hL_wJ {h : Hp} {a b : Nat} {i j : Int} {x : Int64} (hi : 0 ≤ i) (hj : 0 ≤ j) : hL (wJ h a i x) b j = if b = a ∧ j = i then x else hL h b j := by
  unfold hL
  rw [hJ_setJ]
  unfold up2
  by_cases hb : b = a
  · subst hb
    rw [if_pos rfl]
    by_cases hji : j = i
    · subst hji
      rw [if_pos rfl, if_pos ⟨rfl, rfl⟩]
    · rw [if_neg (by omega), if_neg (by omega)]
  · rw [if_neg hb, if_neg (fun q => hb q.1)]
theorem hL_wE {h : Hp} {a b : Nat} {i j z : Int} : hL (wE h a i z) b j = hL h b j := rfl
theorem hE_wJ {h : Hp} {a b : Nat} {i j : Int} {x : Int64} : hE (wJ h a i x) b j = hE h b j := rfl
theorem FR.l {A : Nat → Nat → Prop} {h h' : Hp} (H : FR A h h') {b : Nat} {i : Int} (n : ¬ A b i.toNat) : hL h' b i = hL h b i := by
  unfold hL
  rw [(H.2.2.2 b i.toNat n).2]
theorem alJ_ok {h : Hp} {a n : Nat} {i : Int} (hT : TJ (top h) a n) (h0 : 0 ≤ i) (h1 : i < n) (hn : n < 100000) : alJ h a (J i) = some (hL h a i) := by
  unfold alJ
  rw [if_pos ⟨hT.1, by rw [show hLen h a = n from hT.2]; exact inB_ok h0 h1 hn⟩, J_nat (by omega) (by omega)]
  rfl
theorem asJ_ok {h : Hp} {a n : Nat} {i : Int} {x : Int64} (hT : TJ (top h) a n) (h0 : 0 ≤ i) (h1 : i < n) (hn : n < 100000) : asJ h a (J i) x = some (wJ h a i x) := by
  unfold asJ
  rw [if_pos ⟨hT.1, by rw [show hLen h a = n from hT.2]; exact inB_ok h0 h1 hn⟩, J_nat (by omega) (by omega)]
theorem alenJ_ok {h : Hp} {a n : Nat} (hT : TJ (top h) a n) : alen h a 22 = some (J n) := by
  unfold alen
  rw [if_pos (show hTag h a = 22 from hT.1), show hLen h a = n from hT.2]
  exact congrArg some (J_nI n).symm
theorem CA.frame {A : Nat → Nat → Prop} {h h' : Hp} {o : Nat} {T : Int → Int} (H : CA h o T) (F : FR A h h') (n0 : ¬ A o 0) (n1 : ¬ A o 1) (n3 : ∀ k, ¬ A (o + 1) k) (n5 : ∀ k, ¬ A (o + 3) k) (n6 : ∀ k, ¬ A (o + 4) k) (n7 : ∀ k, ¬ A (o + 5) k) (n8 : ∀ k, ¬ A (o + 6) k) (n9 : ∀ k, ¬ A (o + 7) k) : CA h' o T := by
  obtain ⟨c1, c2, c3, c4, c5, c6, c7, c8⟩ := H
  refine ⟨by rw [F.1]; exact c1, c2, ?_, ?_, fun d d0 d1 => ?_, fun d v hv => ?_, fun d v q hp => ?_, fun t t0 t1 => ⟨?_, ?_, ?_⟩⟩
  · rw [F.e n0, c3]
  · rw [F.e n1, c4]
  · rw [F.e (n3 _), c5 d d0 d1]
  · rw [F.e (n5 _), c6 d v hv]
  · rw [F.e (n6 _), c7 d v q hp]
  · rw [F.e (n7 _), (c8 t t0 t1).1]
  · rw [F.e (n8 _), (c8 t t0 t1).2.1]
  · rw [F.e (n9 _), (c8 t t0 t1).2.2]
theorem RM.frame {A : Nat → Nat → Prop} {h h' : Hp} {o : Nat} {T : Int → Int} (H : RM h o T) (F : FR A h h') (n0 : ¬ A o 24) (n1 : ∀ k, ¬ A (o + 9) k) : RM h' o T := by
  obtain ⟨c1, c2, c3, c4⟩ := H
  refine ⟨by rw [F.1]; exact c1, c2, ?_, fun k k0 k1 => ?_⟩
  · rw [F.e n0, c3]
  · rw [F.e (n1 _), c4 k k0 k1]
/-! how many bits of a word of 64 -/
theorem nx_and2 (a b : Nat) : J (a : Int) &&& J (b : Int) = J ((a &&& b : Nat) : Int) := by
  rw [J_nI, J_nI, J_nI]
  apply Int32.toBitVec_inj.mp
  rw [Int32.toBitVec_and]
  show BitVec.ofNat 32 a &&& BitVec.ofNat 32 b = BitVec.ofNat 32 (a &&& b)
  apply BitVec.eq_of_toNat_eq
  rw [BitVec.toNat_and, BitVec.toNat_ofNat, BitVec.toNat_ofNat, BitVec.toNat_ofNat, ← Nat.and_mod_two_pow]
theorem mk5_8 : (6148914691236517205 : Int64) = L (mk5 8) := by rw [show mk5 8 = 6148914691236517205 by decide]; rfl
theorem mk3_8 : (3689348814741910323 : Int64) = L (mk3 8) := by rw [show mk3 8 = 3689348814741910323 by decide]; rfl
theorem mkF_8 : (1085102592571150095 : Int64) = L (mkF 8) := by rw [show mkF 8 = 1085102592571150095 by decide]; rfl
theorem J13_bitCount_ok {h : Hp} {m : Nat} (hm : m < 2 ^ 40) : m_J13_bitCount_95d88 (L m) h = some (J (pcN m)) := by
  have b1 : s1N 8 m < 2 ^ 40 := Nat.lt_of_le_of_lt (Nat.sub_le _ _) hm
  have b2 : s2N 8 m < 2 ^ 41 := by
    have h1 : (s1N 8 m &&& mk3 8) ≤ s1N 8 m := Nat.and_le_left
    have h2 : (s1N 8 m / 4 &&& mk3 8) ≤ s1N 8 m / 4 := Nat.and_le_left
    unfold s2N
    omega
  have b3 : s3N 8 m < 2 ^ 42 := by
    have h1 : (s2N 8 m + s2N 8 m / 16 &&& mkF 8) ≤ s2N 8 m + s2N 8 m / 16 := Nat.and_le_left
    unfold s3N
    omega
  have e1 : (L m - ((lushrF (L m) (1 : Int32)) &&& (6148914691236517205 : Int64))) = L (s1N 8 m) := by
    rw [l1, L_ushr (by omega) (by omega) (by omega), mk5_8, L_and (Nat.lt_of_le_of_lt (Nat.div_le_self _ _) (by omega)) (by decide)]
    refine lN_sub ?_
    have : (m / 2 ^ (1 : Int).toNat &&& mk5 8) ≤ m / 2 ^ (1 : Int).toNat := Nat.and_le_left
    exact Nat.le_trans this (Nat.div_le_self _ _)
  have e2 : (L (s1N 8 m) &&& (3689348814741910323 : Int64)) + (lushrF (L (s1N 8 m)) (2 : Int32) &&& (3689348814741910323 : Int64)) = L (s2N 8 m) := by
    rw [l2, L_ushr (by omega) (by omega) (by omega), mk3_8, L_and (by omega) (by decide), L_and (Nat.lt_of_le_of_lt (Nat.div_le_self _ _) (by omega)) (by decide)]
    exact lN_add _ _
  have e3 : (L (s2N 8 m) + lushrF (L (s2N 8 m)) (4 : Int32)) &&& (1085102592571150095 : Int64) = L (s3N 8 m) := by
    rw [l4, L_ushr (by omega) (by omega) (by omega), mkF_8, lN_add]
    exact L_and (by have : s2N 8 m / 2 ^ (4 : Int).toNat ≤ s2N 8 m := Nat.div_le_self _ _; omega) (by decide)
  have e4 : L (s3N 8 m) + lushrF (L (s3N 8 m)) (8 : Int32) = L (s3N 8 m + s3N 8 m / 256) := by
    rw [l8, L_ushr (by omega) (by omega) (by omega), lN_add]
    rfl
  have b4 : s3N 8 m + s3N 8 m / 256 < 2 ^ 43 := by omega
  have e5 : L (s3N 8 m + s3N 8 m / 256) + lushrF (L (s3N 8 m + s3N 8 m / 256)) (16 : Int32) = L (s3N 8 m + s3N 8 m / 256 + (s3N 8 m + s3N 8 m / 256) / 65536) := by
    rw [l16, L_ushr (by omega) (by omega) (by omega), lN_add]
    rfl
  have b5 : s3N 8 m + s3N 8 m / 256 + (s3N 8 m + s3N 8 m / 256) / 65536 < 2 ^ 44 := by omega
  have e6 : L (s3N 8 m + s3N 8 m / 256 + (s3N 8 m + s3N 8 m / 256) / 65536) + lushrF (L (s3N 8 m + s3N 8 m / 256 + (s3N 8 m + s3N 8 m / 256) / 65536)) (32 : Int32) = L (s3N 8 m + s3N 8 m / 256 + (s3N 8 m + s3N 8 m / 256) / 65536 + (s3N 8 m + s3N 8 m / 256 + (s3N 8 m + s3N 8 m / 256) / 65536) / 4294967296) := by
    rw [l32, L_ushr (by omega) (by omega) (by omega), lN_add]
    rfl
  unfold m_J13_bitCount_95d88
  rw [e1, e2, e3, e4, e5, e6, L_toI32, show (127 : Int32) = J ((127 : Nat) : Int) from rfl, nx_and2, show (127 : Nat) = 2 ^ 7 - 1 from rfl, Nat.and_two_pow_sub_one_eq_mod]
  have := pc_all hm
  rw [← this]
  rfl
