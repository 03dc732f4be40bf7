/-! the texts' own methods, by hand -/
set_option maxRecDepth 20000 in
theorem ev_coder {i : Nat} {h : Hp} (hi : i < stL.length) : Ev M_J0_coder_7d493 [aA (tN i)] h (some (aI 0), h) := by
  show Go M_J0_coder_7d493 (some (aI 0), h) 0 [some (aA (tN i))] [] h
  refine go_getsC tw580 dJ0_coder_7d493_0 ?_
  refine go_if_eq (tgt := 13) dJ0_coder_7d493_3 (by decide) (fun c => absurd c (by decide)) (fun c => ?_)
  refine go_aloadn dJ0_coder_7d493_6 rfl ?_
  refine go_sgetC hi tw2001 dJ0_coder_7d493_7 ?_
  refine go_goto (tgt := 14) dJ0_coder_7d493_10 (by decide) ?_
  exact go_ireturn dJ0_coder_7d493_14 ⟨.byte, rfl, rfl⟩
set_option maxRecDepth 20000 in
theorem ev_isLatin1 {i : Nat} {h : Hp} (hi : i < stL.length) : Ev M_J0_isLatin1_aae02 [aA (tN i)] h (some (aI 1), h) := by
  show Go M_J0_isLatin1_aae02 (some (aI 1), h) 0 [some (aA (tN i))] [] h
  refine go_getsC tw580 dJ0_isLatin1_aae02_0 ?_
  refine go_if_eq (tgt := 17) dJ0_isLatin1_aae02_3 (by decide) (fun c => absurd c (by decide)) (fun c => ?_)
  refine go_aloadn dJ0_isLatin1_aae02_6 rfl ?_
  refine go_sgetC hi tw2001 dJ0_isLatin1_aae02_7 ?_
  refine go_if_ne (tgt := 17) dJ0_isLatin1_aae02_10 (by decide) (fun c => absurd rfl c) (fun c => ?_)
  refine go_iconst (v := (1 : Int32)) dJ0_isLatin1_aae02_13 rfl ?_
  refine go_goto (tgt := 18) dJ0_isLatin1_aae02_14 (by decide) ?_
  exact go_ireturn dJ0_isLatin1_aae02_18 ⟨.boolean, rfl, rfl⟩
theorem inB_lt {j : Int32} {n : Nat} (h : inB j n = true) (hn : n < 2 ^ 31) : ¬ j < 0 ∧ j < Int32.ofNat n := by
  unfold inB at h
  simp only [Bool.and_eq_true, decide_eq_true_eq] at h
  refine ⟨fun q => ?_, ?_⟩
  · have := Int32.lt_iff_toInt_lt.mp q
    simp at this
    omega
  · rw [Int32.lt_iff_toInt_lt, Int32.toInt_ofNat_of_lt hn]
    exact h.2
set_option maxRecDepth 20000 in
theorem ev_checkIndex3 {j n : Int32} {h : Hp} (h1 : ¬ j < 0) (h2 : j < n) : Ev M_J3_checkIndex_8e157 [aI j, aI n, aA 999999] h (some (aI j), h) := by
  show Go M_J3_checkIndex_8e157 (some (aI j), h) 0 [some (aI j), some (aI n), some (aA 999999)] [] h
  refine go_iloadn dJ3_checkIndex_8e157_0 rfl ?_
  refine go_if_lt (tgt := 9) dJ3_checkIndex_8e157_1 (by decide) (fun c => absurd c h1) (fun c => ?_)
  refine go_iloadn dJ3_checkIndex_8e157_4 rfl ?_
  refine go_iloadn dJ3_checkIndex_8e157_5 rfl ?_
  refine go_icmp_lt (tgt := 16) dJ3_checkIndex_8e157_6 (by decide) (fun c => ?_) (fun c => absurd h2 c)
  refine go_iloadn dJ3_checkIndex_8e157_16 rfl ?_
  exact go_ireturn dJ3_checkIndex_8e157_17 ⟨.int, rfl, rfl⟩
set_option maxRecDepth 20000 in
theorem ev_checkIndex {j n : Int32} {h : Hp} (h1 : ¬ j < 0) (h2 : j < n) : Ev M_J0_checkIndex_df160 [aI j, aI n] h (none, h) := by
  show Go M_J0_checkIndex_df160 (none, h) 0 [some (aI j), some (aI n)] [] h
  refine go_iloadn dJ0_checkIndex_df160_0 rfl ?_
  refine go_iloadn dJ0_checkIndex_df160_1 rfl ?_
  refine go_getsF tw596 dJ0_checkIndex_df160_2 ?_
  refine go_callS (vs := [aI j, aI n, aA 999999]) (stk := []) (o1 := (some (aI j), h)) mk_J3_checkIndex_8e157 ss_J0_checkIndex_df160_1059 dJ0_checkIndex_df160_5 rfl rfl (Nat.le_of_ble_eq_true rfl) (Nat.le_of_ble_eq_true rfl) (ev_checkIndex3 h1 h2) (show Go M_J0_checkIndex_df160 (none, h) 8 [some (aI j), some (aI n)] [aI j] h from ?_)
  refine go_popI dJ0_checkIndex_df160_8 ?_
  exact go_return dJ0_checkIndex_df160_9 rfl
theorem st_lens : ∀ i, i < stL.length → stLen.getD i 0 < 2 ^ 31 ∧ stLen.getD i 0 = (stByt.getD i []).length := by decide +kernel
theorem st_chars : ∀ l ∈ stByt, ∀ b ∈ l, i2cF (b &&& 255) = b ∧ narrow .char (.int b) = .int b := by decide +kernel
theorem st_char {i : Nat} {j : Int32} (hi : i < stL.length) (hj : inB j (stLen.getD i 0) = true) : i2cF ((stByt.getD i []).getD j.toNatClampNeg 0 &&& 255) = (stByt.getD i []).getD j.toNatClampNeg 0 ∧ narrow .char (.int ((stByt.getD i []).getD j.toNatClampNeg 0)) = .int ((stByt.getD i []).getD j.toNatClampNeg 0) := by
  have hlen : stL.length = stByt.length := by decide +kernel
  obtain ⟨h1, h2⟩ := st_lens i hi
  have hin := inB_in hj
  have hlt : j.toNatClampNeg < (stByt.getD i []).length := by
    have := vp_in_iff.mp hin
    rw [← h2]
    show j.toInt.toNat < _
    omega
  have hm : stByt.getD i [] ∈ stByt := by
    rw [List.getD_eq_getElem?_getD, List.getElem?_eq_getElem (by omega)]
    exact List.getElem_mem _
  refine st_chars _ hm _ ?_
  generalize stByt.getD i [] = l at hlt ⊢
  rw [List.getD_eq_getElem?_getD, List.getElem?_eq_getElem hlt]
  exact List.getElem_mem _
set_option maxRecDepth 20000 in
theorem ev_charAt1 {i : Nat} {j : Int32} {h : Hp} (hi : i < stL.length) (hj : inB j (stLen.getD i 0) = true) : Ev M_J1_charAt_3b067 [aA (tB i), aI j] h (some (aI ((stByt.getD i []).getD j.toNatClampNeg 0)), h) := by
  obtain ⟨e1, e2⟩ := st_char hi hj
  obtain ⟨q1, q2⟩ := inB_lt hj (st_lens i hi).1
  show Go M_J1_charAt_3b067 (some (aI ((stByt.getD i []).getD j.toNatClampNeg 0)), h) 0 [some (aA (tB i)), some (aI j)] [] h
  refine go_iloadn dJ1_charAt_3b067_0 rfl ?_
  refine go_aloadn dJ1_charAt_3b067_1 rfl ?_
  refine go_slen hi dJ1_charAt_3b067_2 ?_
  refine go_callS (vs := [aI j, aI (Int32.ofNat (stLen.getD i 0))]) (stk := []) (o1 := (none, h)) mk_J0_checkIndex_df160 ss_J1_charAt_3b067_9 dJ1_charAt_3b067_3 rfl rfl (Nat.le_of_ble_eq_true rfl) (Nat.le_of_ble_eq_true rfl) (ev_checkIndex q1 q2) (show Go M_J1_charAt_3b067 _ 6 [some (aA (tB i)), some (aI j)] [] h from ?_)
  refine go_aloadn dJ1_charAt_3b067_6 rfl ?_
  refine go_iloadn dJ1_charAt_3b067_7 rfl ?_
  refine go_sbald hi dJ1_charAt_3b067_8 hj ?_
  refine go_sipush (v := (255 : Int32)) dJ1_charAt_3b067_9 rfl ?_
  refine go_iand dJ1_charAt_3b067_12 ?_
  refine go_i2c dJ1_charAt_3b067_13 ?_
  rw [e1]
  exact go_ireturn dJ1_charAt_3b067_14 ⟨.char, rfl, e2⟩
set_option maxRecDepth 20000 in
theorem ev_charAt {i : Nat} {j : Int32} {h : Hp} (hi : i < stL.length) (hj : inB j (stLen.getD i 0) = true) : Ev M_J0_charAt_5068e [aA (tN i), aI j] h (some (aI ((stByt.getD i []).getD j.toNatClampNeg 0)), h) := by
  obtain ⟨e1, e2⟩ := st_char hi hj
  show Go M_J0_charAt_5068e (some (aI ((stByt.getD i []).getD j.toNatClampNeg 0)), h) 0 [some (aA (tN i)), some (aI j)] [] h
  refine go_aloadn dJ0_charAt_5068e_0 rfl ?_
  refine go_callVS (vs := []) (stk := []) (o1 := (some (aI 1), h)) mk_J0_isLatin1_aae02 hi rfl sv_J0_charAt_5068e_492 dJ0_charAt_5068e_1 rfl rfl (Nat.le_of_ble_eq_true rfl) (Nat.le_of_ble_eq_true rfl) (ev_isLatin1 hi) (show Go M_J0_charAt_5068e _ 4 [some (aA (tN i)), some (aI j)] [aI 1] h from ?_)
  refine go_if_eq (tgt := 16) dJ0_charAt_5068e_4 (by decide) (fun c => absurd c (by decide)) (fun c => ?_)
  refine go_aloadn dJ0_charAt_5068e_7 rfl ?_
  refine go_sgetV hi tw2000 dJ0_charAt_5068e_8 ?_
  refine go_iloadn dJ0_charAt_5068e_11 rfl ?_
  refine go_callS (vs := [aA (tB i), aI j]) (stk := []) (o1 := (some (aI ((stByt.getD i []).getD j.toNatClampNeg 0)), h)) mk_J1_charAt_3b067 ss_J0_charAt_5068e_495 dJ0_charAt_5068e_12 rfl rfl (Nat.le_of_ble_eq_true rfl) (Nat.le_of_ble_eq_true rfl) (ev_charAt1 hi hj) (show Go M_J0_charAt_5068e _ 15 [some (aA (tN i)), some (aI j)] [aI ((stByt.getD i []).getD j.toNatClampNeg 0)] h from ?_)
  exact go_ireturn dJ0_charAt_5068e_15 ⟨.char, rfl, e2⟩
set_option maxRecDepth 20000 in
theorem ev_slen {i : Nat} {h : Hp} (hi : i < stL.length) : Ev M_J0_length_8abf5 [aA (tN i)] h (some (aI (Int32.ofNat (stLen.getD i 0))), h) := by
  show Go M_J0_length_8abf5 (some (aI (Int32.ofNat (stLen.getD i 0))), h) 0 [some (aA (tN i))] [] h
  refine go_aloadn dJ0_length_8abf5_0 rfl ?_
  refine go_sgetV hi tw2000 dJ0_length_8abf5_1 ?_
  refine go_slen hi dJ0_length_8abf5_4 ?_
  refine go_aloadn dJ0_length_8abf5_5 rfl ?_
  refine go_callVS (vs := []) (stk := [aI (Int32.ofNat (stLen.getD i 0))]) (o1 := (some (aI 0), h)) mk_J0_coder_7d493 hi rfl sv_J0_length_8abf5_335 dJ0_length_8abf5_6 rfl rfl (Nat.le_of_ble_eq_true rfl) (Nat.le_of_ble_eq_true rfl) (ev_coder hi) (show Go M_J0_length_8abf5 _ 9 [some (aA (tN i))] [aI 0, aI (Int32.ofNat (stLen.getD i 0))] h from ?_)
  refine go_ishr dJ0_length_8abf5_9 ?_
  have e : ishrF (Int32.ofNat (stLen.getD i 0)) 0 = Int32.ofNat (stLen.getD i 0) := by
    unfold ishrF
    rw [show ((0 : Int32) &&& 31) = 0 by decide]
    exact Int32.shiftRight_zero
  rw [e]
  exact go_ireturn dJ0_length_8abf5_10 ⟨.int, rfl, rfl⟩
section GMS
variable {Rr : Type} {M : MT} {out : Option AV × Hp} {pc : Nat} {loc : List (Option AV)} {stk : List AV} {h : Hp} {y : Rr}
theorem gm_strLen {f : Int32 → Option Rr} {idx n : Nat} (hs : SiteV M idx M_J0_length_8abf5 0) (hd : decode (mB M) pc = .ok (.invokevirtual idx, 3)) (hw0 : wt stk = wt stk) (hw : wt stk ≤ 8) (H : (strLen n).bind f = some y) (kk : ∀ v, f v = some y → Go M out (pc + 3) loc (aI v :: stk) h) : Go M out pc loc (aA n :: stk) h := by
  obtain ⟨v, e, H⟩ := bind_some H
  obtain ⟨ht, rfl⟩ := ite_some e
  obtain ⟨hi, hn⟩ := txI_ok ht
  have k9 := kk _ H
  rw [← hn]
  exact go_callVS (vs := []) (stk := stk) (o1 := (some (aI (Int32.ofNat (stLen.getD (txI n) 0))), h)) mk_J0_length_8abf5 hi rfl hs hd rfl rfl (Nat.le_of_ble_eq_true rfl) hw (ev_slen hi) k9
theorem gm_strCh {f : Int32 → Option Rr} {idx n : Nat} {j : Int32} (hs : SiteV M idx M_J0_charAt_5068e 1) (hd : decode (mB M) pc = .ok (.invokevirtual idx, 3)) (hw0 : wt stk = wt stk) (hw : wt stk ≤ 8) (H : (strCh n j).bind f = some y) (kk : ∀ v, f v = some y → Go M out (pc + 3) loc (aI v :: stk) h) : Go M out pc loc (aI j :: aA n :: stk) h := by
  obtain ⟨v, e, H⟩ := bind_some H
  obtain ⟨ht, rfl⟩ := ite_some e
  obtain ⟨hi, hn⟩ := txI_ok ht.1
  have k9 := kk _ H
  rw [← hn]
  exact go_callVS (vs := [aI j]) (stk := stk) (o1 := (some (aI ((stByt.getD (txI n) []).getD j.toNatClampNeg 0)), h)) mk_J0_charAt_5068e hi rfl hs hd rfl rfl (Nat.le_of_ble_eq_true rfl) hw (ev_charAt hi ht.2) k9
end GMS
