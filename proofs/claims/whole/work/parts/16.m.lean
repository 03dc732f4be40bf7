/-! X2_twins -/
def b_X2_twins_15 (v0 : Nat) (v1 : Nat) (v3 : Int32) (h : Hp) (K42 : Int32 → Option Int32) (k : Int32 → Int32 → Option Int32) (v2 : Int32) (v4 : Int32) : Option Int32 :=
  (rc h v1 1 (m_X0_versionsOf v1 v3 h)).bind fun x1 => if x1 ≤ v4 then K42 v2 else (rc h v0 3 (m_X2_twinsAhead v0 v1 v3 v4 h)).bind fun x2 => k (v2 + x2) (v4 + (1 : Int32))
set_option maxRecDepth 20000 in
theorem okb_X2_twins_15 {r : Int32} (v0 : Nat) (v1 : Nat) (v3 : Int32) (h : Hp) (K42 : Int32 → Option Int32) (k : Int32 → Int32 → Option Int32) (v2 : Int32) (v4 : Int32) (HK42 : ∀ (v2q : Int32) , K42 v2q = some r → Go M_X2_twins (some (aI r), h) 42 [some (aA v0), some (aA v1), some (aI v2q), some (aI v3), none] [] h) (Hk : ∀ (v2q : Int32) (v4q : Int32), k v2q v4q = some r → Go M_X2_twins (some (aI r), h) 15 [some (aA v0), some (aA v1), some (aI v2q), some (aI v3), some (aI v4q)] [] h) (H : b_X2_twins_15 v0 v1 v3 h K42 k v2 v4 = some r) : Go M_X2_twins (some (aI r), h) 15 [some (aA v0), some (aA v1), some (aI v2), some (aI v3), some (aI v4)] [] h := by
  unfold b_X2_twins_15 at H
  refine go_iload dX2_twins_15 rfl ?_
  refine go_aloadn dX2_twins_17 rfl ?_
  refine go_iloadn dX2_twins_18 rfl ?_
  obtain ⟨c1, x1, ex1, H⟩ := gm_rc H
  refine go_callV (vs := [aI v3]) (stk := [aI v4]) (o1 := (some (aI x1), h)) mk_X0_versionsOf sv_X2_twins_21 cl_X0 rfl dX2_twins_19 c1 rfl rfl (Nat.le_of_ble_eq_true rfl) (Nat.le_of_ble_eq_true rfl) (ok_X0_versionsOf ex1) (show Go M_X2_twins (some (aI r), h) 22 [some (aA v0), some (aA v1), some (aI v2), some (aI v3), some (aI v4)] [aI x1, aI v4] h from ?_)
  refine go_icmp_ge (tgt := 42) dX2_twins_22 (by decide) (fun c2 => ?_) (fun c2 => ?_)
  · replace H := (gm_ite H).1 c2
    refine go_mask [true, true, true, true, false] (loc' := [some (aA v0), some (aA v1), some (aI v2), some (aI v3), none]) rfl ?_
    exact HK42 v2 H
  · replace H := (gm_ite H).2 c2
    refine go_iloadn dX2_twins_25 rfl ?_
    refine go_aloadn dX2_twins_26 rfl ?_
    refine go_aloadn dX2_twins_27 rfl ?_
    refine go_iloadn dX2_twins_28 rfl ?_
    refine go_iload dX2_twins_29 rfl ?_
    obtain ⟨c3, x2, ex2, H⟩ := gm_rc H
    refine go_callV (vs := [aA v1, aI v3, aI v4]) (stk := [aI v2]) (o1 := (some (aI x2), h)) mk_X2_twinsAhead sv_X2_twins_43 cl_X2 rfl dX2_twins_31 c3 rfl rfl (Nat.le_of_ble_eq_true rfl) (Nat.le_of_ble_eq_true rfl) (ok_X2_twinsAhead ex2) (show Go M_X2_twins (some (aI r), h) 34 [some (aA v0), some (aA v1), some (aI v2), some (aI v3), some (aI v4)] [aI x2, aI v2] h from ?_)
    refine go_iadd dX2_twins_34 ?_
    refine go_istoren (loc2 := [some (aA v0), some (aA v1), some (aI (v2 + x2)), some (aI v3), some (aI v4)]) dX2_twins_35 rfl (by decide) rfl ?_
    refine go_iinc (v := (v4 + (1 : Int32))) (loc2 := [some (aA v0), some (aA v1), some (aI (v2 + x2)), some (aI v3), some (aI (v4 + (1 : Int32)))]) dX2_twins_36 rfl rfl (by decide) rfl ?_
    refine go_goto (tgt := 15) dX2_twins_39 (by decide) ?_
    exact Hk (v2 + x2) (v4 + (1 : Int32)) H
def l_X2_twins_15 (v0 : Nat) (v1 : Nat) (v3 : Int32) (h : Hp) (K42 : Int32 → Option Int32) (v2 : Int32) (v4 : Int32) : Option Int32 := loopK FUEL (fun (k : Int32 × Int32 → Option Int32) (s : Int32 × Int32) => b_X2_twins_15 v0 v1 v3 h K42 (fun v2q v4q => k (v2q, v4q)) s.1 s.2) (v2, v4)
theorem okl_X2_twins_15 {r : Int32} (v0 : Nat) (v1 : Nat) (v3 : Int32) (h : Hp) (K42 : Int32 → Option Int32) (v2 : Int32) (v4 : Int32) (HK42 : ∀ (v2q : Int32) , K42 v2q = some r → Go M_X2_twins (some (aI r), h) 42 [some (aA v0), some (aA v1), some (aI v2q), some (aI v3), none] [] h) (H : l_X2_twins_15 v0 v1 v3 h K42 v2 v4 = some r) : Go M_X2_twins (some (aI r), h) 15 [some (aA v0), some (aA v1), some (aI v2), some (aI v3), some (aI v4)] [] h := by
  unfold l_X2_twins_15 at H
  exact go_loop (σ := Int32 × Int32) (body := (fun (k : Int32 × Int32 → Option Int32) (s : Int32 × Int32) => b_X2_twins_15 v0 v1 v3 h K42 (fun v2q v4q => k (v2q, v4q)) s.1 s.2)) (fun s => [some (aA v0), some (aA v1), some (aI s.1), some (aI v3), some (aI s.2)]) (fun s => h) (fun k s Hk H => okb_X2_twins_15 v0 v1 v3 h K42 (fun v2q v4q => k (v2q, v4q)) s.1 s.2 HK42 (fun v2q v4q H => Hk (v2q, v4q) H) H) FUEL (v2, v4) H
def j_X2_twins_42 (v0 : Nat) (v1 : Nat) (v2 : Int32) (v3 : Int32)  (h : Hp) (k : Int32 → Int32 → Option Int32) : Option Int32 :=
  k v2 (v3 + (1 : Int32))
set_option maxRecDepth 20000 in
theorem okj_X2_twins_42 {r : Int32} (v0 : Nat) (v1 : Nat) (v2 : Int32) (v3 : Int32)  (h : Hp) (k : Int32 → Int32 → Option Int32) (Hk : ∀ (v2q : Int32) (v3q : Int32), k v2q v3q = some r → Go M_X2_twins (some (aI r), h) 4 [some (aA v0), some (aA v1), some (aI v2q), some (aI v3q), none] [] h) (H : j_X2_twins_42 v0 v1 v2 v3 h k = some r) : Go M_X2_twins (some (aI r), h) 42 [some (aA v0), some (aA v1), some (aI v2), some (aI v3), none] [] h := by
  unfold j_X2_twins_42 at H
  refine go_iinc (v := (v3 + (1 : Int32))) (loc2 := [some (aA v0), some (aA v1), some (aI v2), some (aI (v3 + (1 : Int32))), none]) dX2_twins_42 rfl rfl (by decide) rfl ?_
  refine go_goto (tgt := 4) dX2_twins_45 (by decide) ?_
  exact Hk v2 (v3 + (1 : Int32)) H
def b_X2_twins_4 (v0 : Nat) (v1 : Nat) (h : Hp) (k : Int32 → Int32 → Option Int32) (v2 : Int32) (v3 : Int32) : Option Int32 :=
  (gfI h v1 1 0).bind fun x1 => if x1 ≤ v3 then (some v2) else l_X2_twins_15 v0 v1 v3 h (fun a2_2 => j_X2_twins_42 v0 v1 a2_2 v3 h k) v2 (0 : Int32)
set_option maxRecDepth 20000 in
theorem okb_X2_twins_4 {r : Int32} (v0 : Nat) (v1 : Nat) (h : Hp) (k : Int32 → Int32 → Option Int32) (v2 : Int32) (v3 : Int32) (Hk : ∀ (v2q : Int32) (v3q : Int32), k v2q v3q = some r → Go M_X2_twins (some (aI r), h) 4 [some (aA v0), some (aA v1), some (aI v2q), some (aI v3q), none] [] h) (H : b_X2_twins_4 v0 v1 h k v2 v3 = some r) : Go M_X2_twins (some (aI r), h) 4 [some (aA v0), some (aA v1), some (aI v2), some (aI v3), none] [] h := by
  unfold b_X2_twins_4 at H
  refine go_iloadn dX2_twins_4 rfl ?_
  refine go_aloadn dX2_twins_5 rfl ?_
  refine gm_getI fd_X2_17 dX2_twins_6 H (fun x1 H => ?_)
  refine go_icmp_ge (tgt := 48) dX2_twins_9 (by decide) (fun c1 => ?_) (fun c1 => ?_)
  · replace H := (gm_ite H).1 c1
    refine go_iloadn dX2_twins_48 rfl ?_
    obtain rfl := Option.some.inj H
    exact go_ireturn dX2_twins_49 (tyI_int rfl)
  · replace H := (gm_ite H).2 c1
    refine go_iconst (v := (0 : Int32)) dX2_twins_12 rfl ?_
    refine go_istore (loc2 := [some (aA v0), some (aA v1), some (aI v2), some (aI v3), some (aI (0 : Int32))]) dX2_twins_13 (by decide) rfl ?_
    refine okl_X2_twins_15 v0 v1 v3 h (fun a2_2 => j_X2_twins_42 v0 v1 a2_2 v3 h k) v2 (0 : Int32) ?_ H
    · intro a2_2 H
      exact okj_X2_twins_42 v0 v1 a2_2 v3 h k Hk H
def l_X2_twins_4 (v0 : Nat) (v1 : Nat) (h : Hp) (v2 : Int32) (v3 : Int32) : Option Int32 := loopK FUEL (fun (k : Int32 × Int32 → Option Int32) (s : Int32 × Int32) => b_X2_twins_4 v0 v1 h (fun v2q v3q => k (v2q, v3q)) s.1 s.2) (v2, v3)
theorem okl_X2_twins_4 {r : Int32} (v0 : Nat) (v1 : Nat) (h : Hp) (v2 : Int32) (v3 : Int32) (H : l_X2_twins_4 v0 v1 h v2 v3 = some r) : Go M_X2_twins (some (aI r), h) 4 [some (aA v0), some (aA v1), some (aI v2), some (aI v3), none] [] h := by
  unfold l_X2_twins_4 at H
  exact go_loop (σ := Int32 × Int32) (body := (fun (k : Int32 × Int32 → Option Int32) (s : Int32 × Int32) => b_X2_twins_4 v0 v1 h (fun v2q v3q => k (v2q, v3q)) s.1 s.2)) (fun s => [some (aA v0), some (aA v1), some (aI s.1), some (aI s.2), none]) (fun s => h) (fun k s Hk H => okb_X2_twins_4 v0 v1 h (fun v2q v3q => k (v2q, v3q)) s.1 s.2  (fun v2q v3q H => Hk (v2q, v3q) H) H) FUEL (v2, v3) H
def m_X2_twins (v0 : Nat) (v1 : Nat) (h : Hp) : Option Int32 :=
  l_X2_twins_4 v0 v1 h (0 : Int32) (0 : Int32)
set_option maxRecDepth 20000 in
theorem ok_X2_twins {r : Int32} {v0 : Nat} {v1 : Nat} {h : Hp} (H : m_X2_twins v0 v1 h = some r) : Ev M_X2_twins [aA v0, aA v1] h (some (aI r), h) := by
  show Go M_X2_twins (some (aI r), h) 0 [some (aA v0), some (aA v1), none, none, none] [] h
  unfold m_X2_twins at H
  refine go_iconst (v := (0 : Int32)) dX2_twins_0 rfl ?_
  refine go_istoren (loc2 := [some (aA v0), some (aA v1), some (aI (0 : Int32)), none, none]) dX2_twins_1 rfl (by decide) rfl ?_
  refine go_iconst (v := (0 : Int32)) dX2_twins_2 rfl ?_
  refine go_istoren (loc2 := [some (aA v0), some (aA v1), some (aI (0 : Int32)), some (aI (0 : Int32)), none]) dX2_twins_3 rfl (by decide) rfl ?_
  exact okl_X2_twins_4 v0 v1 h (0 : Int32) (0 : Int32) H
/-! X5_firstBit -/
def j_X5_firstBit_17  (s0 : Int32) (h : Hp) : Option Int32 :=
  some s0
set_option maxRecDepth 20000 in
theorem okj_X5_firstBit_17 {r : Int32}  (s0 : Int32) (h : Hp) (H : j_X5_firstBit_17 s0 h = some r) : Go M_X5_firstBit (some (aI r), h) 17 [none] [aI s0] h := by
  unfold j_X5_firstBit_17 at H
  obtain rfl := Option.some.inj H
  exact go_ireturn dX5_firstBit_17 (tyI_int rfl)
def m_X5_firstBit (v0 : Int32) (h : Hp) : Option Int32 :=
  if ¬ v0 = 0 then ((m_J6_bitCount_0f7a4 ((v0 &&& (-v0)) - (1 : Int32)) h).bind fun x1 => j_X5_firstBit_17 x1 h) else j_X5_firstBit_17 (-1 : Int32) h
set_option maxRecDepth 20000 in
theorem ok_X5_firstBit {r : Int32} {v0 : Int32} {h : Hp} (H : m_X5_firstBit v0 h = some r) : Ev M_X5_firstBit [aI v0] h (some (aI r), h) := by
  show Go M_X5_firstBit (some (aI r), h) 0 [some (aI v0)] [] h
  unfold m_X5_firstBit at H
  refine go_iloadn dX5_firstBit_0 rfl ?_
  refine go_if_ne (tgt := 8) dX5_firstBit_1 (by decide) (fun c1 => ?_) (fun c1 => ?_)
  · replace H := (gm_ite H).1 c1
    refine go_iloadn dX5_firstBit_8 rfl ?_
    refine go_iloadn dX5_firstBit_9 rfl ?_
    refine go_ineg dX5_firstBit_10 ?_
    refine go_iand dX5_firstBit_11 ?_
    refine go_iconst (v := (1 : Int32)) dX5_firstBit_12 rfl ?_
    refine go_isub dX5_firstBit_13 ?_
    obtain ⟨x1, ex1, H⟩ := bind_some H
    refine go_callS (vs := [aI ((v0 &&& (-v0)) - (1 : Int32))]) (stk := []) (o1 := (some (aI x1), h)) mk_J6_bitCount_0f7a4 ss_X5_firstBit_23 dX5_firstBit_14 rfl rfl (Nat.le_of_ble_eq_true rfl) (Nat.le_of_ble_eq_true rfl) (ok_J6_bitCount_0f7a4 ex1) (show Go M_X5_firstBit (some (aI r), h) 17 [some (aI v0)] [aI x1] h from ?_)
    refine go_mask [false] (loc' := [none]) rfl ?_
    exact okj_X5_firstBit_17 x1 h  H
  · replace H := (gm_ite H).2 c1
    refine go_iconst (v := (-1 : Int32)) dX5_firstBit_4 rfl ?_
    refine go_goto (tgt := 17) dX5_firstBit_5 (by decide) ?_
    refine go_mask [false] (loc' := [none]) rfl ?_
    exact okj_X5_firstBit_17 (-1 : Int32) h  H
/-! X5_bit -/
def j_X5_bit_19  (s0 : Int32) (h : Hp) : Option Int32 :=
  some s0
set_option maxRecDepth 20000 in
theorem okj_X5_bit_19 {r : Int32}  (s0 : Int32) (h : Hp) (H : j_X5_bit_19 s0 h = some r) : Go M_X5_bit (some (aI r), h) 19 [none, none] [aI s0] h := by
  unfold j_X5_bit_19 at H
  obtain rfl := Option.some.inj H
  exact go_ireturn dX5_bit_19 (tyI_int rfl)
def m_X5_bit (v0 : Int32) (v1 : Int32) (h : Hp) : Option Int32 :=
  if v1 < 0 then j_X5_bit_19 (0 : Int32) h else if (32 : Int32) ≤ v1 then j_X5_bit_19 (0 : Int32) h else j_X5_bit_19 ((iushrF v0 v1) &&& (1 : Int32)) h
set_option maxRecDepth 20000 in
theorem ok_X5_bit {r : Int32} {v0 : Int32} {v1 : Int32} {h : Hp} (H : m_X5_bit v0 v1 h = some r) : Ev M_X5_bit [aI v0, aI v1] h (some (aI r), h) := by
  show Go M_X5_bit (some (aI r), h) 0 [some (aI v0), some (aI v1)] [] h
  unfold m_X5_bit at H
  refine go_iloadn dX5_bit_0 rfl ?_
  refine go_if_lt (tgt := 18) dX5_bit_1 (by decide) (fun c1 => ?_) (fun c1 => ?_)
  · replace H := (gm_ite H).1 c1
    refine go_iconst (v := (0 : Int32)) dX5_bit_18 rfl ?_
    refine go_mask [false, false] (loc' := [none, none]) rfl ?_
    exact okj_X5_bit_19 (0 : Int32) h  H
  · replace H := (gm_ite H).2 c1
    refine go_iloadn dX5_bit_4 rfl ?_
    refine go_bipush (v := (32 : Int32)) dX5_bit_5 rfl ?_
    refine go_icmp_ge (tgt := 18) dX5_bit_7 (by decide) (fun c2 => ?_) (fun c2 => ?_)
    · replace H := (gm_ite H).1 c2
      refine go_iconst (v := (0 : Int32)) dX5_bit_18 rfl ?_
      refine go_mask [false, false] (loc' := [none, none]) rfl ?_
      exact okj_X5_bit_19 (0 : Int32) h  H
    · replace H := (gm_ite H).2 c2
      refine go_iloadn dX5_bit_10 rfl ?_
      refine go_iloadn dX5_bit_11 rfl ?_
      refine go_iushr dX5_bit_12 ?_
      refine go_iconst (v := (1 : Int32)) dX5_bit_13 rfl ?_
      refine go_iand dX5_bit_14 ?_
      refine go_goto (tgt := 19) dX5_bit_15 (by decide) ?_
      refine go_mask [false, false] (loc' := [none, none]) rfl ?_
      exact okj_X5_bit_19 ((iushrF v0 v1) &&& (1 : Int32)) h  H
/-! X2_placeOf -/
def b_X2_placeOf_3 (v1 : Nat) (v2 : Int32) (v3 : Int32) (v4 : Int32) (h : Hp) (k : Int32 → Option Int32) (v5 : Int32) : Option Int32 :=
  (rc h v1 1 (m_X0_lengthOf v1 v2 v3 h)).bind fun x1 => if x1 ≤ v5 then (some (-1 : Int32)) else (rc h v1 1 (m_X0_tokenAt v1 v2 v3 v5 h)).bind fun x2 => if ¬ x2 = v4 then (k (v5 + (1 : Int32))) else some v5
set_option maxRecDepth 20000 in
theorem okb_X2_placeOf_3 {r : Int32} (v1 : Nat) (v2 : Int32) (v3 : Int32) (v4 : Int32) (h : Hp) (k : Int32 → Option Int32) (v5 : Int32) (Hk : ∀ (v5q : Int32), k v5q = some r → Go M_X2_placeOf (some (aI r), h) 3 [none, some (aA v1), some (aI v2), some (aI v3), some (aI v4), some (aI v5q)] [] h) (H : b_X2_placeOf_3 v1 v2 v3 v4 h k v5 = some r) : Go M_X2_placeOf (some (aI r), h) 3 [none, some (aA v1), some (aI v2), some (aI v3), some (aI v4), some (aI v5)] [] h := by
  unfold b_X2_placeOf_3 at H
  refine go_iload dX2_placeOf_3 rfl ?_
  refine go_aloadn dX2_placeOf_5 rfl ?_
  refine go_iloadn dX2_placeOf_6 rfl ?_
  refine go_iloadn dX2_placeOf_7 rfl ?_
  obtain ⟨c1, x1, ex1, H⟩ := gm_rc H
  refine go_callV (vs := [aI v2, aI v3]) (stk := [aI v5]) (o1 := (some (aI x1), h)) mk_X0_lengthOf sv_X2_placeOf_25 cl_X0 rfl dX2_placeOf_8 c1 rfl rfl (Nat.le_of_ble_eq_true rfl) (Nat.le_of_ble_eq_true rfl) (ok_X0_lengthOf ex1) (show Go M_X2_placeOf (some (aI r), h) 11 [none, some (aA v1), some (aI v2), some (aI v3), some (aI v4), some (aI v5)] [aI x1, aI v5] h from ?_)
  refine go_icmp_ge (tgt := 36) dX2_placeOf_11 (by decide) (fun c2 => ?_) (fun c2 => ?_)
  · replace H := (gm_ite H).1 c2
    refine go_iconst (v := (-1 : Int32)) dX2_placeOf_36 rfl ?_
    obtain rfl := Option.some.inj H
    exact go_ireturn dX2_placeOf_37 (tyI_int rfl)
  · replace H := (gm_ite H).2 c2
    refine go_aloadn dX2_placeOf_14 rfl ?_
    refine go_iloadn dX2_placeOf_15 rfl ?_
    refine go_iloadn dX2_placeOf_16 rfl ?_
    refine go_iload dX2_placeOf_17 rfl ?_
    obtain ⟨c3, x2, ex2, H⟩ := gm_rc H
    refine go_callV (vs := [aI v2, aI v3, aI v5]) (stk := []) (o1 := (some (aI x2), h)) mk_X0_tokenAt sv_X2_placeOf_55 cl_X0 rfl dX2_placeOf_19 c3 rfl rfl (Nat.le_of_ble_eq_true rfl) (Nat.le_of_ble_eq_true rfl) (ok_X0_tokenAt ex2) (show Go M_X2_placeOf (some (aI r), h) 22 [none, some (aA v1), some (aI v2), some (aI v3), some (aI v4), some (aI v5)] [aI x2] h from ?_)
    refine go_iload dX2_placeOf_22 rfl ?_
    refine go_icmp_ne (tgt := 30) dX2_placeOf_24 (by decide) (fun c4 => ?_) (fun c4 => ?_)
    · replace H := (gm_ite H).1 c4
      refine go_iinc (v := (v5 + (1 : Int32))) (loc2 := [none, some (aA v1), some (aI v2), some (aI v3), some (aI v4), some (aI (v5 + (1 : Int32)))]) dX2_placeOf_30 rfl rfl (by decide) rfl ?_
      refine go_goto (tgt := 3) dX2_placeOf_33 (by decide) ?_
      exact Hk (v5 + (1 : Int32)) H
    · replace H := (gm_ite H).2 c4
      refine go_iload dX2_placeOf_27 rfl ?_
      obtain rfl := Option.some.inj H
      exact go_ireturn dX2_placeOf_29 (tyI_int rfl)
def l_X2_placeOf_3 (v1 : Nat) (v2 : Int32) (v3 : Int32) (v4 : Int32) (h : Hp) (v5 : Int32) : Option Int32 := loopK FUEL (fun (k : Int32 → Option Int32) (s : Int32) => b_X2_placeOf_3 v1 v2 v3 v4 h (fun v5q => k v5q) s) v5
theorem okl_X2_placeOf_3 {r : Int32} (v1 : Nat) (v2 : Int32) (v3 : Int32) (v4 : Int32) (h : Hp) (v5 : Int32) (H : l_X2_placeOf_3 v1 v2 v3 v4 h v5 = some r) : Go M_X2_placeOf (some (aI r), h) 3 [none, some (aA v1), some (aI v2), some (aI v3), some (aI v4), some (aI v5)] [] h := by
  unfold l_X2_placeOf_3 at H
  exact go_loop (σ := Int32) (body := (fun (k : Int32 → Option Int32) (s : Int32) => b_X2_placeOf_3 v1 v2 v3 v4 h (fun v5q => k v5q) s)) (fun s => [none, some (aA v1), some (aI v2), some (aI v3), some (aI v4), some (aI s)]) (fun s => h) (fun k s Hk H => okb_X2_placeOf_3 v1 v2 v3 v4 h (fun v5q => k v5q) s  (fun v5q H => Hk v5q H) H) FUEL v5 H
def m_X2_placeOf (v0 : Nat) (v1 : Nat) (v2 : Int32) (v3 : Int32) (v4 : Int32) (h : Hp) : Option Int32 :=
  l_X2_placeOf_3 v1 v2 v3 v4 h (0 : Int32)
set_option maxRecDepth 20000 in
theorem ok_X2_placeOf {r : Int32} {v0 : Nat} {v1 : Nat} {v2 : Int32} {v3 : Int32} {v4 : Int32} {h : Hp} (H : m_X2_placeOf v0 v1 v2 v3 v4 h = some r) : Ev M_X2_placeOf [aA v0, aA v1, aI v2, aI v3, aI v4] h (some (aI r), h) := by
  show Go M_X2_placeOf (some (aI r), h) 0 [some (aA v0), some (aA v1), some (aI v2), some (aI v3), some (aI v4), none] [] h
  unfold m_X2_placeOf at H
  refine go_iconst (v := (0 : Int32)) dX2_placeOf_0 rfl ?_
  refine go_istore (loc2 := [some (aA v0), some (aA v1), some (aI v2), some (aI v3), some (aI v4), some (aI (0 : Int32))]) dX2_placeOf_1 (by decide) rfl ?_
  refine go_mask [false, true, true, true, true, true] (loc' := [none, some (aA v1), some (aI v2), some (aI v3), some (aI v4), some (aI (0 : Int32))]) rfl ?_
  exact okl_X2_placeOf_3 v1 v2 v3 v4 h (0 : Int32) H
/-! X2_stayTogether -/
def j_X2_stayTogether_70 (v0 : Nat) (v1 : Nat) (v2 : Int32) (v3 : Int32) (v4 : Int32) (v5 : Int32) (v6 : Int32)  (h : Hp) (k : Int32 → Option Int32) : Option Int32 :=
  k (v6 + (1 : Int32))
set_option maxRecDepth 20000 in
theorem okj_X2_stayTogether_70 {r : Int32} (v0 : Nat) (v1 : Nat) (v2 : Int32) (v3 : Int32) (v4 : Int32) (v5 : Int32) (v6 : Int32)  (h : Hp) (k : Int32 → Option Int32) (Hk : ∀ (v6q : Int32), k v6q = some r → Go M_X2_stayTogether (some (aI r), h) 23 [some (aA v0), some (aA v1), some (aI v2), some (aI v3), some (aI v4), some (aI v5), some (aI v6q)] [] h) (H : j_X2_stayTogether_70 v0 v1 v2 v3 v4 v5 v6 h k = some r) : Go M_X2_stayTogether (some (aI r), h) 70 [some (aA v0), some (aA v1), some (aI v2), some (aI v3), some (aI v4), some (aI v5), some (aI v6)] [] h := by
  unfold j_X2_stayTogether_70 at H
  refine go_iinc (v := (v6 + (1 : Int32))) (loc2 := [some (aA v0), some (aA v1), some (aI v2), some (aI v3), some (aI v4), some (aI v5), some (aI (v6 + (1 : Int32)))]) dX2_stayTogether_70 rfl rfl (by decide) rfl ?_
  refine go_goto (tgt := 23) dX2_stayTogether_73 (by decide) ?_
  exact Hk (v6 + (1 : Int32)) H
def b_X2_stayTogether_23 (v0 : Nat) (v1 : Nat) (v2 : Int32) (v3 : Int32) (v4 : Int32) (v5 : Int32) (h : Hp) (k : Int32 → Option Int32) (v6 : Int32) : Option Int32 :=
  (rc h v1 1 (m_X0_versionsOf v1 v2 h)).bind fun x1 => if x1 ≤ v6 then (some (1 : Int32)) else (m_X5_bit v5 v6 h).bind fun x2 => if ¬ x2 = (1 : Int32) then j_X2_stayTogether_70 v0 v1 v2 v3 v4 v5 v6 h k else (rc h v0 3 (m_X2_placeOf v0 v1 v2 v6 v3 h)).bind fun x3 => (rc h v0 3 (m_X2_placeOf v0 v1 v2 v6 v4 h)).bind fun x4 => if (x3 + (1 : Int32)) = x4 then j_X2_stayTogether_70 v0 v1 v2 v3 v4 v5 v6 h k else some (0 : Int32)
set_option maxRecDepth 20000 in
theorem okb_X2_stayTogether_23 {r : Int32} (v0 : Nat) (v1 : Nat) (v2 : Int32) (v3 : Int32) (v4 : Int32) (v5 : Int32) (h : Hp) (k : Int32 → Option Int32) (v6 : Int32) (Hk : ∀ (v6q : Int32), k v6q = some r → Go M_X2_stayTogether (some (aI r), h) 23 [some (aA v0), some (aA v1), some (aI v2), some (aI v3), some (aI v4), some (aI v5), some (aI v6q)] [] h) (H : b_X2_stayTogether_23 v0 v1 v2 v3 v4 v5 h k v6 = some r) : Go M_X2_stayTogether (some (aI r), h) 23 [some (aA v0), some (aA v1), some (aI v2), some (aI v3), some (aI v4), some (aI v5), some (aI v6)] [] h := by
  unfold b_X2_stayTogether_23 at H
  refine go_iload dX2_stayTogether_23 rfl ?_
  refine go_aloadn dX2_stayTogether_25 rfl ?_
  refine go_iloadn dX2_stayTogether_26 rfl ?_
  obtain ⟨c1, x1, ex1, H⟩ := gm_rc H
  refine go_callV (vs := [aI v2]) (stk := [aI v6]) (o1 := (some (aI x1), h)) mk_X0_versionsOf sv_X2_stayTogether_21 cl_X0 rfl dX2_stayTogether_27 c1 rfl rfl (Nat.le_of_ble_eq_true rfl) (Nat.le_of_ble_eq_true rfl) (ok_X0_versionsOf ex1) (show Go M_X2_stayTogether (some (aI r), h) 30 [some (aA v0), some (aA v1), some (aI v2), some (aI v3), some (aI v4), some (aI v5), some (aI v6)] [aI x1, aI v6] h from ?_)
  refine go_icmp_ge (tgt := 76) dX2_stayTogether_30 (by decide) (fun c2 => ?_) (fun c2 => ?_)
  · replace H := (gm_ite H).1 c2
    refine go_iconst (v := (1 : Int32)) dX2_stayTogether_76 rfl ?_
    obtain rfl := Option.some.inj H
    exact go_ireturn (x := (1 : Int32)) dX2_stayTogether_77 (tyI_bool rfl (by decide))
  · replace H := (gm_ite H).2 c2
    refine go_iload dX2_stayTogether_33 rfl ?_
    refine go_iload dX2_stayTogether_35 rfl ?_
    obtain ⟨x2, ex2, H⟩ := bind_some H
    refine go_callS (vs := [aI v5, aI v6]) (stk := []) (o1 := (some (aI x2), h)) mk_X5_bit ss_X2_stayTogether_70 dX2_stayTogether_37 rfl rfl (Nat.le_of_ble_eq_true rfl) (Nat.le_of_ble_eq_true rfl) (ok_X5_bit ex2) (show Go M_X2_stayTogether (some (aI r), h) 40 [some (aA v0), some (aA v1), some (aI v2), some (aI v3), some (aI v4), some (aI v5), some (aI v6)] [aI x2] h from ?_)
    refine go_iconst (v := (1 : Int32)) dX2_stayTogether_40 rfl ?_
    refine go_icmp_ne (tgt := 70) dX2_stayTogether_41 (by decide) (fun c4 => ?_) (fun c4 => ?_)
    · replace H := (gm_ite H).1 c4
      exact okj_X2_stayTogether_70 v0 v1 v2 v3 v4 v5 v6 h k Hk H
    · replace H := (gm_ite H).2 c4
      refine go_aloadn dX2_stayTogether_44 rfl ?_
      refine go_aloadn dX2_stayTogether_45 rfl ?_
      refine go_iloadn dX2_stayTogether_46 rfl ?_
      refine go_iload dX2_stayTogether_47 rfl ?_
      refine go_iloadn dX2_stayTogether_49 rfl ?_
      obtain ⟨c5, x3, ex3, H⟩ := gm_rc H
      refine go_callV (vs := [aA v1, aI v2, aI v6, aI v3]) (stk := []) (o1 := (some (aI x3), h)) mk_X2_placeOf sv_X2_stayTogether_73 cl_X2 rfl dX2_stayTogether_50 c5 rfl rfl (Nat.le_of_ble_eq_true rfl) (Nat.le_of_ble_eq_true rfl) (ok_X2_placeOf ex3) (show Go M_X2_stayTogether (some (aI r), h) 53 [some (aA v0), some (aA v1), some (aI v2), some (aI v3), some (aI v4), some (aI v5), some (aI v6)] [aI x3] h from ?_)
      refine go_iconst (v := (1 : Int32)) dX2_stayTogether_53 rfl ?_
      refine go_iadd dX2_stayTogether_54 ?_
      refine go_aloadn dX2_stayTogether_55 rfl ?_
      refine go_aloadn dX2_stayTogether_56 rfl ?_
      refine go_iloadn dX2_stayTogether_57 rfl ?_
      refine go_iload dX2_stayTogether_58 rfl ?_
      refine go_iload dX2_stayTogether_60 rfl ?_
      obtain ⟨c6, x4, ex4, H⟩ := gm_rc H
      refine go_callV (vs := [aA v1, aI v2, aI v6, aI v4]) (stk := [aI (x3 + (1 : Int32))]) (o1 := (some (aI x4), h)) mk_X2_placeOf sv_X2_stayTogether_73 cl_X2 rfl dX2_stayTogether_62 c6 rfl rfl (Nat.le_of_ble_eq_true rfl) (Nat.le_of_ble_eq_true rfl) (ok_X2_placeOf ex4) (show Go M_X2_stayTogether (some (aI r), h) 65 [some (aA v0), some (aA v1), some (aI v2), some (aI v3), some (aI v4), some (aI v5), some (aI v6)] [aI x4, aI (x3 + (1 : Int32))] h from ?_)
      refine go_icmp_eq (tgt := 70) dX2_stayTogether_65 (by decide) (fun c7 => ?_) (fun c7 => ?_)
      · replace H := (gm_ite H).1 c7
        exact okj_X2_stayTogether_70 v0 v1 v2 v3 v4 v5 v6 h k Hk H
      · replace H := (gm_ite H).2 c7
        refine go_iconst (v := (0 : Int32)) dX2_stayTogether_68 rfl ?_
        obtain rfl := Option.some.inj H
        exact go_ireturn (x := (0 : Int32)) dX2_stayTogether_69 (tyI_bool rfl (by decide))
def l_X2_stayTogether_23 (v0 : Nat) (v1 : Nat) (v2 : Int32) (v3 : Int32) (v4 : Int32) (v5 : Int32) (h : Hp) (v6 : Int32) : Option Int32 := loopK FUEL (fun (k : Int32 → Option Int32) (s : Int32) => b_X2_stayTogether_23 v0 v1 v2 v3 v4 v5 h (fun v6q => k v6q) s) v6
theorem okl_X2_stayTogether_23 {r : Int32} (v0 : Nat) (v1 : Nat) (v2 : Int32) (v3 : Int32) (v4 : Int32) (v5 : Int32) (h : Hp) (v6 : Int32) (H : l_X2_stayTogether_23 v0 v1 v2 v3 v4 v5 h v6 = some r) : Go M_X2_stayTogether (some (aI r), h) 23 [some (aA v0), some (aA v1), some (aI v2), some (aI v3), some (aI v4), some (aI v5), some (aI v6)] [] h := by
  unfold l_X2_stayTogether_23 at H
  exact go_loop (σ := Int32) (body := (fun (k : Int32 → Option Int32) (s : Int32) => b_X2_stayTogether_23 v0 v1 v2 v3 v4 v5 h (fun v6q => k v6q) s)) (fun s => [some (aA v0), some (aA v1), some (aI v2), some (aI v3), some (aI v4), some (aI v5), some (aI s)]) (fun s => h) (fun k s Hk H => okb_X2_stayTogether_23 v0 v1 v2 v3 v4 v5 h (fun v6q => k v6q) s  (fun v6q H => Hk v6q H) H) FUEL v6 H
def m_X2_stayTogether (v0 : Nat) (v1 : Nat) (v2 : Int32) (v3 : Int32) (v4 : Int32) (h : Hp) : Option Int32 :=
  (rc h v1 1 (m_X0_stayOf v1 v3 h)).bind fun x1 => (rc h v1 1 (m_X0_stayOf v1 v4 h)).bind fun x2 => if x1 = x2 then (l_X2_stayTogether_23 v0 v1 v2 v3 v4 x1 h (0 : Int32)) else some (0 : Int32)
set_option maxRecDepth 20000 in
theorem ok_X2_stayTogether {r : Int32} {v0 : Nat} {v1 : Nat} {v2 : Int32} {v3 : Int32} {v4 : Int32} {h : Hp} (H : m_X2_stayTogether v0 v1 v2 v3 v4 h = some r) : Ev M_X2_stayTogether [aA v0, aA v1, aI v2, aI v3, aI v4] h (some (aI r), h) := by
  show Go M_X2_stayTogether (some (aI r), h) 0 [some (aA v0), some (aA v1), some (aI v2), some (aI v3), some (aI v4), none, none] [] h
  unfold m_X2_stayTogether at H
  refine go_aloadn dX2_stayTogether_0 rfl ?_
  refine go_iloadn dX2_stayTogether_1 rfl ?_
  obtain ⟨c1, x1, ex1, H⟩ := gm_rc H
  refine go_callV (vs := [aI v3]) (stk := []) (o1 := (some (aI x1), h)) mk_X0_stayOf sv_X2_stayTogether_32 cl_X0 rfl dX2_stayTogether_2 c1 rfl rfl (Nat.le_of_ble_eq_true rfl) (Nat.le_of_ble_eq_true rfl) (ok_X0_stayOf ex1) (show Go M_X2_stayTogether (some (aI r), h) 5 [some (aA v0), some (aA v1), some (aI v2), some (aI v3), some (aI v4), none, none] [aI x1] h from ?_)
  refine go_istore (loc2 := [some (aA v0), some (aA v1), some (aI v2), some (aI v3), some (aI v4), some (aI x1), none]) dX2_stayTogether_5 (by decide) rfl ?_
  refine go_iload dX2_stayTogether_7 rfl ?_
  refine go_aloadn dX2_stayTogether_9 rfl ?_
  refine go_iload dX2_stayTogether_10 rfl ?_
  obtain ⟨c2, x2, ex2, H⟩ := gm_rc H
  refine go_callV (vs := [aI v4]) (stk := [aI x1]) (o1 := (some (aI x2), h)) mk_X0_stayOf sv_X2_stayTogether_32 cl_X0 rfl dX2_stayTogether_12 c2 rfl rfl (Nat.le_of_ble_eq_true rfl) (Nat.le_of_ble_eq_true rfl) (ok_X0_stayOf ex2) (show Go M_X2_stayTogether (some (aI r), h) 15 [some (aA v0), some (aA v1), some (aI v2), some (aI v3), some (aI v4), some (aI x1), none] [aI x2, aI x1] h from ?_)
  refine go_icmp_eq (tgt := 20) dX2_stayTogether_15 (by decide) (fun c3 => ?_) (fun c3 => ?_)
  · replace H := (gm_ite H).1 c3
    refine go_iconst (v := (0 : Int32)) dX2_stayTogether_20 rfl ?_
    refine go_istore (loc2 := [some (aA v0), some (aA v1), some (aI v2), some (aI v3), some (aI v4), some (aI x1), some (aI (0 : Int32))]) dX2_stayTogether_21 (by decide) rfl ?_
    exact okl_X2_stayTogether_23 v0 v1 v2 v3 v4 x1 h (0 : Int32) H
  · replace H := (gm_ite H).2 c3
    refine go_iconst (v := (0 : Int32)) dX2_stayTogether_18 rfl ?_
    obtain rfl := Option.some.inj H
    exact go_ireturn (x := (0 : Int32)) dX2_stayTogether_19 (tyI_bool rfl (by decide))
/-! X2_passages -/
def j_X2_passages_135 (v0 : Nat) (v1 : Nat) (v2 : Int32) (v3 : Int32) (v4 : Int32) (v5 : Int32) (v6 : Int32) (v7 : Int32) (v8 : Int32)  (h : Hp) (K141 : Int32 → Int32 → Int32 → Option Int32) (k : Int32 → Int32 → Int32 → Int32 → Option Int32) : Option Int32 :=
  k v4 v5 v6 (v8 + (1 : Int32))
set_option maxRecDepth 20000 in
theorem okj_X2_passages_135 {r : Int32} (v0 : Nat) (v1 : Nat) (v2 : Int32) (v3 : Int32) (v4 : Int32) (v5 : Int32) (v6 : Int32) (v7 : Int32) (v8 : Int32)  (h : Hp) (K141 : Int32 → Int32 → Int32 → Option Int32) (k : Int32 → Int32 → Int32 → Int32 → Option Int32) (HK141 : ∀ (v4q : Int32) (v5q : Int32) (v6q : Int32) , K141 v4q v5q v6q = some r → Go M_X2_passages (some (aI r), h) 141 [some (aA v0), some (aA v1), some (aI v2), some (aI v3), some (aI v4q), some (aI v5q), some (aI v6q), some (aI v7), none, none, none] [] h) (Hk : ∀ (v4q : Int32) (v5q : Int32) (v6q : Int32) (v8q : Int32), k v4q v5q v6q v8q = some r → Go M_X2_passages (some (aI r), h) 25 [some (aA v0), some (aA v1), some (aI v2), some (aI v3), some (aI v4q), some (aI v5q), some (aI v6q), some (aI v7), some (aI v8q), none, none] [] h) (H : j_X2_passages_135 v0 v1 v2 v3 v4 v5 v6 v7 v8 h K141 k = some r) : Go M_X2_passages (some (aI r), h) 135 [some (aA v0), some (aA v1), some (aI v2), some (aI v3), some (aI v4), some (aI v5), some (aI v6), some (aI v7), some (aI v8), none, none] [] h := by
  unfold j_X2_passages_135 at H
  refine go_iinc (v := (v8 + (1 : Int32))) (loc2 := [some (aA v0), some (aA v1), some (aI v2), some (aI v3), some (aI v4), some (aI v5), some (aI v6), some (aI v7), some (aI (v8 + (1 : Int32))), none, none]) dX2_passages_135 rfl rfl (by decide) rfl ?_
  refine go_goto (tgt := 25) dX2_passages_138 (by decide) ?_
  exact Hk v4 v5 v6 (v8 + (1 : Int32)) H
def j_X2_passages_124 (v0 : Nat) (v1 : Nat) (v2 : Int32) (v3 : Int32) (v4 : Int32) (v6 : Int32) (v7 : Int32) (v8 : Int32) (s0 : Int32) (h : Hp) (K141 : Int32 → Int32 → Int32 → Option Int32) (k : Int32 → Int32 → Int32 → Int32 → Option Int32) : Option Int32 :=
  (m_J9_max_7cf53 v6 s0 h).bind fun x1 => j_X2_passages_135 v0 v1 v2 v3 v4 s0 x1 v7 v8 h K141 k
set_option maxRecDepth 20000 in
theorem okj_X2_passages_124 {r : Int32} (v0 : Nat) (v1 : Nat) (v2 : Int32) (v3 : Int32) (v4 : Int32) (v6 : Int32) (v7 : Int32) (v8 : Int32) (s0 : Int32) (h : Hp) (K141 : Int32 → Int32 → Int32 → Option Int32) (k : Int32 → Int32 → Int32 → Int32 → Option Int32) (HK141 : ∀ (v4q : Int32) (v5q : Int32) (v6q : Int32) , K141 v4q v5q v6q = some r → Go M_X2_passages (some (aI r), h) 141 [some (aA v0), some (aA v1), some (aI v2), some (aI v3), some (aI v4q), some (aI v5q), some (aI v6q), some (aI v7), none, none, none] [] h) (Hk : ∀ (v4q : Int32) (v5q : Int32) (v6q : Int32) (v8q : Int32), k v4q v5q v6q v8q = some r → Go M_X2_passages (some (aI r), h) 25 [some (aA v0), some (aA v1), some (aI v2), some (aI v3), some (aI v4q), some (aI v5q), some (aI v6q), some (aI v7), some (aI v8q), none, none] [] h) (H : j_X2_passages_124 v0 v1 v2 v3 v4 v6 v7 v8 s0 h K141 k = some r) : Go M_X2_passages (some (aI r), h) 124 [some (aA v0), some (aA v1), some (aI v2), some (aI v3), some (aI v4), none, some (aI v6), some (aI v7), some (aI v8), none, none] [aI s0] h := by
  unfold j_X2_passages_124 at H
  refine go_istore (loc2 := [some (aA v0), some (aA v1), some (aI v2), some (aI v3), some (aI v4), some (aI s0), some (aI v6), some (aI v7), some (aI v8), none, none]) dX2_passages_124 (by decide) rfl ?_
  refine go_iload dX2_passages_126 rfl ?_
  refine go_iload dX2_passages_128 rfl ?_
  obtain ⟨x1, ex1, H⟩ := bind_some H
  refine go_callS (vs := [aI v6, aI s0]) (stk := []) (o1 := (some (aI x1), h)) mk_J9_max_7cf53 ss_X2_passages_65 dX2_passages_130 rfl rfl (Nat.le_of_ble_eq_true rfl) (Nat.le_of_ble_eq_true rfl) (ok_J9_max_7cf53 ex1) (show Go M_X2_passages (some (aI r), h) 133 [some (aA v0), some (aA v1), some (aI v2), some (aI v3), some (aI v4), some (aI s0), some (aI v6), some (aI v7), some (aI v8), none, none] [aI x1] h from ?_)
  refine go_istore (loc2 := [some (aA v0), some (aA v1), some (aI v2), some (aI v3), some (aI v4), some (aI s0), some (aI x1), some (aI v7), some (aI v8), none, none]) dX2_passages_133 (by decide) rfl ?_
  exact okj_X2_passages_135 v0 v1 v2 v3 v4 s0 x1 v7 v8 h K141 k HK141 Hk H
def j_X2_passages_108 (v0 : Nat) (v1 : Nat) (v2 : Int32) (v3 : Int32) (v5 : Int32) (v6 : Int32) (v7 : Int32) (v8 : Int32) (v10 : Int32) (s0 : Int32) (s1 : Int32) (h : Hp) (K141 : Int32 → Int32 → Int32 → Option Int32) (k : Int32 → Int32 → Int32 → Int32 → Option Int32) : Option Int32 :=
  if v10 = 0 then j_X2_passages_124 v0 v1 v2 v3 (s0 + s1) v6 v7 v8 (1 : Int32) h K141 k else j_X2_passages_124 v0 v1 v2 v3 (s0 + s1) v6 v7 v8 (v5 + (1 : Int32)) h K141 k
set_option maxRecDepth 20000 in
theorem okj_X2_passages_108 {r : Int32} (v0 : Nat) (v1 : Nat) (v2 : Int32) (v3 : Int32) (v5 : Int32) (v6 : Int32) (v7 : Int32) (v8 : Int32) (v10 : Int32) (s0 : Int32) (s1 : Int32) (h : Hp) (K141 : Int32 → Int32 → Int32 → Option Int32) (k : Int32 → Int32 → Int32 → Int32 → Option Int32) (HK141 : ∀ (v4q : Int32) (v5q : Int32) (v6q : Int32) , K141 v4q v5q v6q = some r → Go M_X2_passages (some (aI r), h) 141 [some (aA v0), some (aA v1), some (aI v2), some (aI v3), some (aI v4q), some (aI v5q), some (aI v6q), some (aI v7), none, none, none] [] h) (Hk : ∀ (v4q : Int32) (v5q : Int32) (v6q : Int32) (v8q : Int32), k v4q v5q v6q v8q = some r → Go M_X2_passages (some (aI r), h) 25 [some (aA v0), some (aA v1), some (aI v2), some (aI v3), some (aI v4q), some (aI v5q), some (aI v6q), some (aI v7), some (aI v8q), none, none] [] h) (H : j_X2_passages_108 v0 v1 v2 v3 v5 v6 v7 v8 v10 s0 s1 h K141 k = some r) : Go M_X2_passages (some (aI r), h) 108 [some (aA v0), some (aA v1), some (aI v2), some (aI v3), none, some (aI v5), some (aI v6), some (aI v7), some (aI v8), none, some (aI v10)] [aI s1, aI s0] h := by
  unfold j_X2_passages_108 at H
  refine go_iadd dX2_passages_108 ?_
  refine go_istore (loc2 := [some (aA v0), some (aA v1), some (aI v2), some (aI v3), some (aI (s0 + s1)), some (aI v5), some (aI v6), some (aI v7), some (aI v8), none, some (aI v10)]) dX2_passages_109 (by decide) rfl ?_
  refine go_iload dX2_passages_111 rfl ?_
  refine go_if_eq (tgt := 123) dX2_passages_113 (by decide) (fun c1 => ?_) (fun c1 => ?_)
  · replace H := (gm_ite H).1 c1
    refine go_iconst (v := (1 : Int32)) dX2_passages_123 rfl ?_
    refine go_mask [true, true, true, true, true, false, true, true, true, false, false] (loc' := [some (aA v0), some (aA v1), some (aI v2), some (aI v3), some (aI (s0 + s1)), none, some (aI v6), some (aI v7), some (aI v8), none, none]) rfl ?_
    exact okj_X2_passages_124 v0 v1 v2 v3 (s0 + s1) v6 v7 v8 (1 : Int32) h K141 k HK141 Hk H
  · replace H := (gm_ite H).2 c1
    refine go_iload dX2_passages_116 rfl ?_
    refine go_iconst (v := (1 : Int32)) dX2_passages_118 rfl ?_
    refine go_iadd dX2_passages_119 ?_
    refine go_goto (tgt := 124) dX2_passages_120 (by decide) ?_
    refine go_mask [true, true, true, true, true, false, true, true, true, false, false] (loc' := [some (aA v0), some (aA v1), some (aI v2), some (aI v3), some (aI (s0 + s1)), none, some (aI v6), some (aI v7), some (aI v8), none, none]) rfl ?_
    exact okj_X2_passages_124 v0 v1 v2 v3 (s0 + s1) v6 v7 v8 (v5 + (1 : Int32)) h K141 k HK141 Hk H
def j_X2_passages_94 (v0 : Nat) (v1 : Nat) (v2 : Int32) (v3 : Int32) (v4 : Int32) (v5 : Int32) (v6 : Int32) (v7 : Int32) (v8 : Int32) (s0 : Int32) (h : Hp) (K141 : Int32 → Int32 → Int32 → Option Int32) (k : Int32 → Int32 → Int32 → Int32 → Option Int32) : Option Int32 :=
  j_X2_passages_108 v0 v1 v2 v3 v5 v6 v7 v8 s0 v4 (if s0 = 0 then (1 : Int32) else (0 : Int32)) h K141 k
set_option maxRecDepth 20000 in
theorem okj_X2_passages_94 {r : Int32} (v0 : Nat) (v1 : Nat) (v2 : Int32) (v3 : Int32) (v4 : Int32) (v5 : Int32) (v6 : Int32) (v7 : Int32) (v8 : Int32) (s0 : Int32) (h : Hp) (K141 : Int32 → Int32 → Int32 → Option Int32) (k : Int32 → Int32 → Int32 → Int32 → Option Int32) (HK141 : ∀ (v4q : Int32) (v5q : Int32) (v6q : Int32) , K141 v4q v5q v6q = some r → Go M_X2_passages (some (aI r), h) 141 [some (aA v0), some (aA v1), some (aI v2), some (aI v3), some (aI v4q), some (aI v5q), some (aI v6q), some (aI v7), none, none, none] [] h) (Hk : ∀ (v4q : Int32) (v5q : Int32) (v6q : Int32) (v8q : Int32), k v4q v5q v6q v8q = some r → Go M_X2_passages (some (aI r), h) 25 [some (aA v0), some (aA v1), some (aI v2), some (aI v3), some (aI v4q), some (aI v5q), some (aI v6q), some (aI v7), some (aI v8q), none, none] [] h) (H : j_X2_passages_94 v0 v1 v2 v3 v4 v5 v6 v7 v8 s0 h K141 k = some r) : Go M_X2_passages (some (aI r), h) 94 [some (aA v0), some (aA v1), some (aI v2), some (aI v3), some (aI v4), some (aI v5), some (aI v6), some (aI v7), some (aI v8), none, none] [aI s0] h := by
  unfold j_X2_passages_94 at H
  refine go_istore (loc2 := [some (aA v0), some (aA v1), some (aI v2), some (aI v3), some (aI v4), some (aI v5), some (aI v6), some (aI v7), some (aI v8), none, some (aI s0)]) dX2_passages_94 (by decide) rfl ?_
  refine go_iload dX2_passages_96 rfl ?_
  refine go_iload dX2_passages_98 rfl ?_
  refine go_if_eq (tgt := 107) dX2_passages_100 (by decide) (fun c1 => ?_) (fun c1 => ?_)
  · rw [if_pos c1] at H
    refine go_iconst (v := (1 : Int32)) dX2_passages_107 rfl ?_
    refine go_mask [true, true, true, true, false, true, true, true, true, false, true] (loc' := [some (aA v0), some (aA v1), some (aI v2), some (aI v3), none, some (aI v5), some (aI v6), some (aI v7), some (aI v8), none, some (aI s0)]) rfl ?_
    exact okj_X2_passages_108 v0 v1 v2 v3 v5 v6 v7 v8 s0 v4 (1 : Int32) h K141 k HK141 Hk H
  · rw [if_neg c1] at H
    refine go_iconst (v := (0 : Int32)) dX2_passages_103 rfl ?_
    refine go_goto (tgt := 108) dX2_passages_104 (by decide) ?_
    refine go_mask [true, true, true, true, false, true, true, true, true, false, true] (loc' := [some (aA v0), some (aA v1), some (aI v2), some (aI v3), none, some (aI v5), some (aI v6), some (aI v7), some (aI v8), none, some (aI s0)]) rfl ?_
    exact okj_X2_passages_108 v0 v1 v2 v3 v5 v6 v7 v8 s0 v4 (0 : Int32) h K141 k HK141 Hk H
def b_X2_passages_25 (v0 : Nat) (v1 : Nat) (v2 : Int32) (v3 : Int32) (v7 : Int32) (h : Hp) (K141 : Int32 → Int32 → Int32 → Option Int32) (k : Int32 → Int32 → Int32 → Int32 → Option Int32) (v4 : Int32) (v5 : Int32) (v6 : Int32) (v8 : Int32) : Option Int32 :=
  (rc h v1 1 (m_X0_lengthOf v1 v2 v7 h)).bind fun x1 => if x1 ≤ v8 then K141 v4 v5 v6 else (rc h v1 1 (m_X0_tokenAt v1 v2 v7 v8 h)).bind fun x2 => (rc h v1 1 (m_X0_stayOf v1 x2 h)).bind fun x3 => (m_X5_firstBit x3 h).bind fun x4 => if ¬ x4 = v7 then j_X2_passages_135 v0 v1 v2 v3 v4 v5 v6 v7 v8 h K141 k else if v8 ≤ 0 then j_X2_passages_94 v0 v1 v2 v3 v4 v5 v6 v7 v8 (0 : Int32) h K141 k else (rc h v1 1 (m_X0_tokenAt v1 v2 v7 (v8 - (1 : Int32)) h)).bind fun x5 => (rc h v0 3 (m_X2_stayTogether v0 v1 v2 x5 x2 h)).bind fun x6 => j_X2_passages_94 v0 v1 v2 v3 v4 v5 v6 v7 v8 (if x6 = 0 then (0 : Int32) else (1 : Int32)) h K141 k
set_option maxRecDepth 20000 in
theorem okb_X2_passages_25 {r : Int32} (v0 : Nat) (v1 : Nat) (v2 : Int32) (v3 : Int32) (v7 : Int32) (h : Hp) (K141 : Int32 → Int32 → Int32 → Option Int32) (k : Int32 → Int32 → Int32 → Int32 → Option Int32) (v4 : Int32) (v5 : Int32) (v6 : Int32) (v8 : Int32) (HK141 : ∀ (v4q : Int32) (v5q : Int32) (v6q : Int32) , K141 v4q v5q v6q = some r → Go M_X2_passages (some (aI r), h) 141 [some (aA v0), some (aA v1), some (aI v2), some (aI v3), some (aI v4q), some (aI v5q), some (aI v6q), some (aI v7), none, none, none] [] h) (Hk : ∀ (v4q : Int32) (v5q : Int32) (v6q : Int32) (v8q : Int32), k v4q v5q v6q v8q = some r → Go M_X2_passages (some (aI r), h) 25 [some (aA v0), some (aA v1), some (aI v2), some (aI v3), some (aI v4q), some (aI v5q), some (aI v6q), some (aI v7), some (aI v8q), none, none] [] h) (H : b_X2_passages_25 v0 v1 v2 v3 v7 h K141 k v4 v5 v6 v8 = some r) : Go M_X2_passages (some (aI r), h) 25 [some (aA v0), some (aA v1), some (aI v2), some (aI v3), some (aI v4), some (aI v5), some (aI v6), some (aI v7), some (aI v8), none, none] [] h := by
  unfold b_X2_passages_25 at H
  refine go_iload dX2_passages_25 rfl ?_
  refine go_aloadn dX2_passages_27 rfl ?_
  refine go_iloadn dX2_passages_28 rfl ?_
  refine go_iload dX2_passages_29 rfl ?_
  obtain ⟨c1, x1, ex1, H⟩ := gm_rc H
  refine go_callV (vs := [aI v2, aI v7]) (stk := [aI v8]) (o1 := (some (aI x1), h)) mk_X0_lengthOf sv_X2_passages_25 cl_X0 rfl dX2_passages_31 c1 rfl rfl (Nat.le_of_ble_eq_true rfl) (Nat.le_of_ble_eq_true rfl) (ok_X0_lengthOf ex1) (show Go M_X2_passages (some (aI r), h) 34 [some (aA v0), some (aA v1), some (aI v2), some (aI v3), some (aI v4), some (aI v5), some (aI v6), some (aI v7), some (aI v8), none, none] [aI x1, aI v8] h from ?_)
  refine go_icmp_ge (tgt := 141) dX2_passages_34 (by decide) (fun c2 => ?_) (fun c2 => ?_)
  · replace H := (gm_ite H).1 c2
    refine go_mask [true, true, true, true, true, true, true, true, false, false, false] (loc' := [some (aA v0), some (aA v1), some (aI v2), some (aI v3), some (aI v4), some (aI v5), some (aI v6), some (aI v7), none, none, none]) rfl ?_
    exact HK141 v4 v5 v6 H
  · replace H := (gm_ite H).2 c2
    refine go_aloadn dX2_passages_37 rfl ?_
    refine go_iloadn dX2_passages_38 rfl ?_
    refine go_iload dX2_passages_39 rfl ?_
    refine go_iload dX2_passages_41 rfl ?_
    obtain ⟨c3, x2, ex2, H⟩ := gm_rc H
    refine go_callV (vs := [aI v2, aI v7, aI v8]) (stk := []) (o1 := (some (aI x2), h)) mk_X0_tokenAt sv_X2_passages_55 cl_X0 rfl dX2_passages_43 c3 rfl rfl (Nat.le_of_ble_eq_true rfl) (Nat.le_of_ble_eq_true rfl) (ok_X0_tokenAt ex2) (show Go M_X2_passages (some (aI r), h) 46 [some (aA v0), some (aA v1), some (aI v2), some (aI v3), some (aI v4), some (aI v5), some (aI v6), some (aI v7), some (aI v8), none, none] [aI x2] h from ?_)
    refine go_istore (loc2 := [some (aA v0), some (aA v1), some (aI v2), some (aI v3), some (aI v4), some (aI v5), some (aI v6), some (aI v7), some (aI v8), some (aI x2), none]) dX2_passages_46 (by decide) rfl ?_
    refine go_aloadn dX2_passages_48 rfl ?_
    refine go_iload dX2_passages_49 rfl ?_
    obtain ⟨c4, x3, ex3, H⟩ := gm_rc H
    refine go_callV (vs := [aI x2]) (stk := []) (o1 := (some (aI x3), h)) mk_X0_stayOf sv_X2_passages_32 cl_X0 rfl dX2_passages_51 c4 rfl rfl (Nat.le_of_ble_eq_true rfl) (Nat.le_of_ble_eq_true rfl) (ok_X0_stayOf ex3) (show Go M_X2_passages (some (aI r), h) 54 [some (aA v0), some (aA v1), some (aI v2), some (aI v3), some (aI v4), some (aI v5), some (aI v6), some (aI v7), some (aI v8), some (aI x2), none] [aI x3] h from ?_)
    obtain ⟨x4, ex4, H⟩ := bind_some H
    refine go_callS (vs := [aI x3]) (stk := []) (o1 := (some (aI x4), h)) mk_X5_firstBit ss_X2_passages_58 dX2_passages_54 rfl rfl (Nat.le_of_ble_eq_true rfl) (Nat.le_of_ble_eq_true rfl) (ok_X5_firstBit ex4) (show Go M_X2_passages (some (aI r), h) 57 [some (aA v0), some (aA v1), some (aI v2), some (aI v3), some (aI v4), some (aI v5), some (aI v6), some (aI v7), some (aI v8), some (aI x2), none] [aI x4] h from ?_)
    refine go_iload dX2_passages_57 rfl ?_
    refine go_icmp_ne (tgt := 135) dX2_passages_59 (by decide) (fun c6 => ?_) (fun c6 => ?_)
    · replace H := (gm_ite H).1 c6
      refine go_mask [true, true, true, true, true, true, true, true, true, false, false] (loc' := [some (aA v0), some (aA v1), some (aI v2), some (aI v3), some (aI v4), some (aI v5), some (aI v6), some (aI v7), some (aI v8), none, none]) rfl ?_
      exact okj_X2_passages_135 v0 v1 v2 v3 v4 v5 v6 v7 v8 h K141 k HK141 Hk H
    · replace H := (gm_ite H).2 c6
      refine go_iload dX2_passages_62 rfl ?_
      refine go_if_le (tgt := 93) dX2_passages_64 (by decide) (fun c7 => ?_) (fun c7 => ?_)
      · replace H := (gm_ite H).1 c7
        refine go_iconst (v := (0 : Int32)) dX2_passages_93 rfl ?_
        refine go_mask [true, true, true, true, true, true, true, true, true, false, false] (loc' := [some (aA v0), some (aA v1), some (aI v2), some (aI v3), some (aI v4), some (aI v5), some (aI v6), some (aI v7), some (aI v8), none, none]) rfl ?_
        exact okj_X2_passages_94 v0 v1 v2 v3 v4 v5 v6 v7 v8 (0 : Int32) h K141 k HK141 Hk H
      · replace H := (gm_ite H).2 c7
        refine go_aloadn dX2_passages_67 rfl ?_
        refine go_aloadn dX2_passages_68 rfl ?_
        refine go_iloadn dX2_passages_69 rfl ?_
        refine go_aloadn dX2_passages_70 rfl ?_
        refine go_iloadn dX2_passages_71 rfl ?_
        refine go_iload dX2_passages_72 rfl ?_
        refine go_iload dX2_passages_74 rfl ?_
        refine go_iconst (v := (1 : Int32)) dX2_passages_76 rfl ?_
        refine go_isub dX2_passages_77 ?_
        obtain ⟨c8, x5, ex5, H⟩ := gm_rc H
        refine go_callV (vs := [aI v2, aI v7, aI (v8 - (1 : Int32))]) (stk := [aI v2, aA v1, aA v0]) (o1 := (some (aI x5), h)) mk_X0_tokenAt sv_X2_passages_55 cl_X0 rfl dX2_passages_78 c8 rfl rfl (Nat.le_of_ble_eq_true rfl) (Nat.le_of_ble_eq_true rfl) (ok_X0_tokenAt ex5) (show Go M_X2_passages (some (aI r), h) 81 [some (aA v0), some (aA v1), some (aI v2), some (aI v3), some (aI v4), some (aI v5), some (aI v6), some (aI v7), some (aI v8), some (aI x2), none] [aI x5, aI v2, aA v1, aA v0] h from ?_)
        refine go_iload dX2_passages_81 rfl ?_
        obtain ⟨c9, x6, ex6, H⟩ := gm_rc H
        refine go_callV (vs := [aA v1, aI v2, aI x5, aI x2]) (stk := []) (o1 := (some (aI x6), h)) mk_X2_stayTogether sv_X2_passages_61 cl_X2 rfl dX2_passages_83 c9 rfl rfl (Nat.le_of_ble_eq_true rfl) (Nat.le_of_ble_eq_true rfl) (ok_X2_stayTogether ex6) (show Go M_X2_passages (some (aI r), h) 86 [some (aA v0), some (aA v1), some (aI v2), some (aI v3), some (aI v4), some (aI v5), some (aI v6), some (aI v7), some (aI v8), some (aI x2), none] [aI x6] h from ?_)
        refine go_if_eq (tgt := 93) dX2_passages_86 (by decide) (fun c10 => ?_) (fun c10 => ?_)
        · rw [if_pos c10] at H
          refine go_iconst (v := (0 : Int32)) dX2_passages_93 rfl ?_
          refine go_mask [true, true, true, true, true, true, true, true, true, false, false] (loc' := [some (aA v0), some (aA v1), some (aI v2), some (aI v3), some (aI v4), some (aI v5), some (aI v6), some (aI v7), some (aI v8), none, none]) rfl ?_
          exact okj_X2_passages_94 v0 v1 v2 v3 v4 v5 v6 v7 v8 (0 : Int32) h K141 k HK141 Hk H
        · rw [if_neg c10] at H
          refine go_iconst (v := (1 : Int32)) dX2_passages_89 rfl ?_
          refine go_goto (tgt := 94) dX2_passages_90 (by decide) ?_
          refine go_mask [true, true, true, true, true, true, true, true, true, false, false] (loc' := [some (aA v0), some (aA v1), some (aI v2), some (aI v3), some (aI v4), some (aI v5), some (aI v6), some (aI v7), some (aI v8), none, none]) rfl ?_
          exact okj_X2_passages_94 v0 v1 v2 v3 v4 v5 v6 v7 v8 (1 : Int32) h K141 k HK141 Hk H
def l_X2_passages_25 (v0 : Nat) (v1 : Nat) (v2 : Int32) (v3 : Int32) (v7 : Int32) (h : Hp) (K141 : Int32 → Int32 → Int32 → Option Int32) (v4 : Int32) (v5 : Int32) (v6 : Int32) (v8 : Int32) : Option Int32 := loopK FUEL (fun (k : Int32 × Int32 × Int32 × Int32 → Option Int32) (s : Int32 × Int32 × Int32 × Int32) => b_X2_passages_25 v0 v1 v2 v3 v7 h K141 (fun v4q v5q v6q v8q => k (v4q, v5q, v6q, v8q)) s.1 s.2.1 s.2.2.1 s.2.2.2) (v4, v5, v6, v8)
theorem okl_X2_passages_25 {r : Int32} (v0 : Nat) (v1 : Nat) (v2 : Int32) (v3 : Int32) (v7 : Int32) (h : Hp) (K141 : Int32 → Int32 → Int32 → Option Int32) (v4 : Int32) (v5 : Int32) (v6 : Int32) (v8 : Int32) (HK141 : ∀ (v4q : Int32) (v5q : Int32) (v6q : Int32) , K141 v4q v5q v6q = some r → Go M_X2_passages (some (aI r), h) 141 [some (aA v0), some (aA v1), some (aI v2), some (aI v3), some (aI v4q), some (aI v5q), some (aI v6q), some (aI v7), none, none, none] [] h) (H : l_X2_passages_25 v0 v1 v2 v3 v7 h K141 v4 v5 v6 v8 = some r) : Go M_X2_passages (some (aI r), h) 25 [some (aA v0), some (aA v1), some (aI v2), some (aI v3), some (aI v4), some (aI v5), some (aI v6), some (aI v7), some (aI v8), none, none] [] h := by
  unfold l_X2_passages_25 at H
  exact go_loop (σ := Int32 × Int32 × Int32 × Int32) (body := (fun (k : Int32 × Int32 × Int32 × Int32 → Option Int32) (s : Int32 × Int32 × Int32 × Int32) => b_X2_passages_25 v0 v1 v2 v3 v7 h K141 (fun v4q v5q v6q v8q => k (v4q, v5q, v6q, v8q)) s.1 s.2.1 s.2.2.1 s.2.2.2)) (fun s => [some (aA v0), some (aA v1), some (aI v2), some (aI v3), some (aI s.1), some (aI s.2.1), some (aI s.2.2.1), some (aI v7), some (aI s.2.2.2), none, none]) (fun s => h) (fun k s Hk H => okb_X2_passages_25 v0 v1 v2 v3 v7 h K141 (fun v4q v5q v6q v8q => k (v4q, v5q, v6q, v8q)) s.1 s.2.1 s.2.2.1 s.2.2.2 HK141 (fun v4q v5q v6q v8q H => Hk (v4q, v5q, v6q, v8q) H) H) FUEL (v4, v5, v6, v8) H
def j_X2_passages_141 (v0 : Nat) (v1 : Nat) (v2 : Int32) (v3 : Int32) (v4 : Int32) (v5 : Int32) (v6 : Int32) (v7 : Int32)  (h : Hp) (K147 : Int32 → Int32 → Option Int32) (k : Int32 → Int32 → Int32 → Int32 → Option Int32) : Option Int32 :=
  k v4 v5 v6 (v7 + (1 : Int32))
set_option maxRecDepth 20000 in
theorem okj_X2_passages_141 {r : Int32} (v0 : Nat) (v1 : Nat) (v2 : Int32) (v3 : Int32) (v4 : Int32) (v5 : Int32) (v6 : Int32) (v7 : Int32)  (h : Hp) (K147 : Int32 → Int32 → Option Int32) (k : Int32 → Int32 → Int32 → Int32 → Option Int32) (HK147 : ∀ (v4q : Int32) (v6q : Int32) , K147 v4q v6q = some r → Go M_X2_passages (some (aI r), h) 147 [none, none, none, some (aI v3), some (aI v4q), none, some (aI v6q), none, none, none, none] [] h) (Hk : ∀ (v4q : Int32) (v5q : Int32) (v6q : Int32) (v7q : Int32), k v4q v5q v6q v7q = some r → Go M_X2_passages (some (aI r), h) 12 [some (aA v0), some (aA v1), some (aI v2), some (aI v3), some (aI v4q), some (aI v5q), some (aI v6q), some (aI v7q), none, none, none] [] h) (H : j_X2_passages_141 v0 v1 v2 v3 v4 v5 v6 v7 h K147 k = some r) : Go M_X2_passages (some (aI r), h) 141 [some (aA v0), some (aA v1), some (aI v2), some (aI v3), some (aI v4), some (aI v5), some (aI v6), some (aI v7), none, none, none] [] h := by
  unfold j_X2_passages_141 at H
  refine go_iinc (v := (v7 + (1 : Int32))) (loc2 := [some (aA v0), some (aA v1), some (aI v2), some (aI v3), some (aI v4), some (aI v5), some (aI v6), some (aI (v7 + (1 : Int32))), none, none, none]) dX2_passages_141 rfl rfl (by decide) rfl ?_
  refine go_goto (tgt := 12) dX2_passages_144 (by decide) ?_
  exact Hk v4 v5 v6 (v7 + (1 : Int32)) H
def b_X2_passages_12 (v0 : Nat) (v1 : Nat) (v2 : Int32) (v3 : Int32) (h : Hp) (K147 : Int32 → Int32 → Option Int32) (k : Int32 → Int32 → Int32 → Int32 → Option Int32) (v4 : Int32) (v5 : Int32) (v6 : Int32) (v7 : Int32) : Option Int32 :=
  (rc h v1 1 (m_X0_versionsOf v1 v2 h)).bind fun x1 => if x1 ≤ v7 then K147 v4 v6 else l_X2_passages_25 v0 v1 v2 v3 v7 h (fun a2_4 a2_5 a2_6 => j_X2_passages_141 v0 v1 v2 v3 a2_4 a2_5 a2_6 v7 h K147 k) v4 v5 v6 (0 : Int32)
set_option maxRecDepth 20000 in
theorem okb_X2_passages_12 {r : Int32} (v0 : Nat) (v1 : Nat) (v2 : Int32) (v3 : Int32) (h : Hp) (K147 : Int32 → Int32 → Option Int32) (k : Int32 → Int32 → Int32 → Int32 → Option Int32) (v4 : Int32) (v5 : Int32) (v6 : Int32) (v7 : Int32) (HK147 : ∀ (v4q : Int32) (v6q : Int32) , K147 v4q v6q = some r → Go M_X2_passages (some (aI r), h) 147 [none, none, none, some (aI v3), some (aI v4q), none, some (aI v6q), none, none, none, none] [] h) (Hk : ∀ (v4q : Int32) (v5q : Int32) (v6q : Int32) (v7q : Int32), k v4q v5q v6q v7q = some r → Go M_X2_passages (some (aI r), h) 12 [some (aA v0), some (aA v1), some (aI v2), some (aI v3), some (aI v4q), some (aI v5q), some (aI v6q), some (aI v7q), none, none, none] [] h) (H : b_X2_passages_12 v0 v1 v2 v3 h K147 k v4 v5 v6 v7 = some r) : Go M_X2_passages (some (aI r), h) 12 [some (aA v0), some (aA v1), some (aI v2), some (aI v3), some (aI v4), some (aI v5), some (aI v6), some (aI v7), none, none, none] [] h := by
  unfold b_X2_passages_12 at H
  refine go_iload dX2_passages_12 rfl ?_
  refine go_aloadn dX2_passages_14 rfl ?_
  refine go_iloadn dX2_passages_15 rfl ?_
  obtain ⟨c1, x1, ex1, H⟩ := gm_rc H
  refine go_callV (vs := [aI v2]) (stk := [aI v7]) (o1 := (some (aI x1), h)) mk_X0_versionsOf sv_X2_passages_21 cl_X0 rfl dX2_passages_16 c1 rfl rfl (Nat.le_of_ble_eq_true rfl) (Nat.le_of_ble_eq_true rfl) (ok_X0_versionsOf ex1) (show Go M_X2_passages (some (aI r), h) 19 [some (aA v0), some (aA v1), some (aI v2), some (aI v3), some (aI v4), some (aI v5), some (aI v6), some (aI v7), none, none, none] [aI x1, aI v7] h from ?_)
  refine go_icmp_ge (tgt := 147) dX2_passages_19 (by decide) (fun c2 => ?_) (fun c2 => ?_)
  · replace H := (gm_ite H).1 c2
    refine go_mask [false, false, false, true, true, false, true, false, false, false, false] (loc' := [none, none, none, some (aI v3), some (aI v4), none, some (aI v6), none, none, none, none]) rfl ?_
    exact HK147 v4 v6 H
  · replace H := (gm_ite H).2 c2
    refine go_iconst (v := (0 : Int32)) dX2_passages_22 rfl ?_
    refine go_istore (loc2 := [some (aA v0), some (aA v1), some (aI v2), some (aI v3), some (aI v4), some (aI v5), some (aI v6), some (aI v7), some (aI (0 : Int32)), none, none]) dX2_passages_23 (by decide) rfl ?_
    refine okl_X2_passages_25 v0 v1 v2 v3 v7 h (fun a2_4 a2_5 a2_6 => j_X2_passages_141 v0 v1 v2 v3 a2_4 a2_5 a2_6 v7 h K147 k) v4 v5 v6 (0 : Int32) ?_ H
    · intro a2_4 a2_5 a2_6 H
      exact okj_X2_passages_141 v0 v1 v2 v3 a2_4 a2_5 a2_6 v7 h K147 k HK147 Hk H
def l_X2_passages_12 (v0 : Nat) (v1 : Nat) (v2 : Int32) (v3 : Int32) (h : Hp) (K147 : Int32 → Int32 → Option Int32) (v4 : Int32) (v5 : Int32) (v6 : Int32) (v7 : Int32) : Option Int32 := loopK FUEL (fun (k : Int32 × Int32 × Int32 × Int32 → Option Int32) (s : Int32 × Int32 × Int32 × Int32) => b_X2_passages_12 v0 v1 v2 v3 h K147 (fun v4q v5q v6q v7q => k (v4q, v5q, v6q, v7q)) s.1 s.2.1 s.2.2.1 s.2.2.2) (v4, v5, v6, v7)
theorem okl_X2_passages_12 {r : Int32} (v0 : Nat) (v1 : Nat) (v2 : Int32) (v3 : Int32) (h : Hp) (K147 : Int32 → Int32 → Option Int32) (v4 : Int32) (v5 : Int32) (v6 : Int32) (v7 : Int32) (HK147 : ∀ (v4q : Int32) (v6q : Int32) , K147 v4q v6q = some r → Go M_X2_passages (some (aI r), h) 147 [none, none, none, some (aI v3), some (aI v4q), none, some (aI v6q), none, none, none, none] [] h) (H : l_X2_passages_12 v0 v1 v2 v3 h K147 v4 v5 v6 v7 = some r) : Go M_X2_passages (some (aI r), h) 12 [some (aA v0), some (aA v1), some (aI v2), some (aI v3), some (aI v4), some (aI v5), some (aI v6), some (aI v7), none, none, none] [] h := by
  unfold l_X2_passages_12 at H
  exact go_loop (σ := Int32 × Int32 × Int32 × Int32) (body := (fun (k : Int32 × Int32 × Int32 × Int32 → Option Int32) (s : Int32 × Int32 × Int32 × Int32) => b_X2_passages_12 v0 v1 v2 v3 h K147 (fun v4q v5q v6q v7q => k (v4q, v5q, v6q, v7q)) s.1 s.2.1 s.2.2.1 s.2.2.2)) (fun s => [some (aA v0), some (aA v1), some (aI v2), some (aI v3), some (aI s.1), some (aI s.2.1), some (aI s.2.2.1), some (aI s.2.2.2), none, none, none]) (fun s => h) (fun k s Hk H => okb_X2_passages_12 v0 v1 v2 v3 h K147 (fun v4q v5q v6q v7q => k (v4q, v5q, v6q, v7q)) s.1 s.2.1 s.2.2.1 s.2.2.2 HK147 (fun v4q v5q v6q v7q H => Hk (v4q, v5q, v6q, v7q) H) H) FUEL (v4, v5, v6, v7) H
def j_X2_passages_158  (s0 : Int32) (h : Hp) : Option Int32 :=
  some s0
set_option maxRecDepth 20000 in
theorem okj_X2_passages_158 {r : Int32}  (s0 : Int32) (h : Hp) (H : j_X2_passages_158 s0 h = some r) : Go M_X2_passages (some (aI r), h) 158 [none, none, none, none, none, none, none, none, none, none, none] [aI s0] h := by
  unfold j_X2_passages_158 at H
  obtain rfl := Option.some.inj H
  exact go_ireturn dX2_passages_158 (tyI_int rfl)
def j_X2_passages_147 (v3 : Int32) (v4 : Int32) (v6 : Int32)  (h : Hp) : Option Int32 :=
  j_X2_passages_158 (if v3 = 0 then v4 else v6) h
set_option maxRecDepth 20000 in
theorem okj_X2_passages_147 {r : Int32} (v3 : Int32) (v4 : Int32) (v6 : Int32)  (h : Hp) (H : j_X2_passages_147 v3 v4 v6 h = some r) : Go M_X2_passages (some (aI r), h) 147 [none, none, none, some (aI v3), some (aI v4), none, some (aI v6), none, none, none, none] [] h := by
  unfold j_X2_passages_147 at H
  refine go_iloadn dX2_passages_147 rfl ?_
  refine go_if_eq (tgt := 156) dX2_passages_148 (by decide) (fun c1 => ?_) (fun c1 => ?_)
  · rw [if_pos c1] at H
    refine go_iload dX2_passages_156 rfl ?_
    refine go_mask [false, false, false, false, false, false, false, false, false, false, false] (loc' := [none, none, none, none, none, none, none, none, none, none, none]) rfl ?_
    exact okj_X2_passages_158 v4 h  H
  · rw [if_neg c1] at H
    refine go_iload dX2_passages_151 rfl ?_
    refine go_goto (tgt := 158) dX2_passages_153 (by decide) ?_
    refine go_mask [false, false, false, false, false, false, false, false, false, false, false] (loc' := [none, none, none, none, none, none, none, none, none, none, none]) rfl ?_
    exact okj_X2_passages_158 v6 h  H
def m_X2_passages (v0 : Nat) (v1 : Nat) (v2 : Int32) (v3 : Int32) (h : Hp) : Option Int32 :=
  l_X2_passages_12 v0 v1 v2 v3 h (fun a1_4 a1_6 => j_X2_passages_147 v3 a1_4 a1_6 h) (0 : Int32) (0 : Int32) (0 : Int32) (0 : Int32)
set_option maxRecDepth 20000 in
theorem ok_X2_passages {r : Int32} {v0 : Nat} {v1 : Nat} {v2 : Int32} {v3 : Int32} {h : Hp} (H : m_X2_passages v0 v1 v2 v3 h = some r) : Ev M_X2_passages [aA v0, aA v1, aI v2, aI v3] h (some (aI r), h) := by
  show Go M_X2_passages (some (aI r), h) 0 [some (aA v0), some (aA v1), some (aI v2), some (aI v3), none, none, none, none, none, none, none] [] h
  unfold m_X2_passages at H
  refine go_iconst (v := (0 : Int32)) dX2_passages_0 rfl ?_
  refine go_istore (loc2 := [some (aA v0), some (aA v1), some (aI v2), some (aI v3), some (aI (0 : Int32)), none, none, none, none, none, none]) dX2_passages_1 (by decide) rfl ?_
  refine go_iconst (v := (0 : Int32)) dX2_passages_3 rfl ?_
  refine go_istore (loc2 := [some (aA v0), some (aA v1), some (aI v2), some (aI v3), some (aI (0 : Int32)), some (aI (0 : Int32)), none, none, none, none, none]) dX2_passages_4 (by decide) rfl ?_
  refine go_iconst (v := (0 : Int32)) dX2_passages_6 rfl ?_
  refine go_istore (loc2 := [some (aA v0), some (aA v1), some (aI v2), some (aI v3), some (aI (0 : Int32)), some (aI (0 : Int32)), some (aI (0 : Int32)), none, none, none, none]) dX2_passages_7 (by decide) rfl ?_
  refine go_iconst (v := (0 : Int32)) dX2_passages_9 rfl ?_
  refine go_istore (loc2 := [some (aA v0), some (aA v1), some (aI v2), some (aI v3), some (aI (0 : Int32)), some (aI (0 : Int32)), some (aI (0 : Int32)), some (aI (0 : Int32)), none, none, none]) dX2_passages_10 (by decide) rfl ?_
  refine okl_X2_passages_12 v0 v1 v2 v3 h (fun a1_4 a1_6 => j_X2_passages_147 v3 a1_4 a1_6 h) (0 : Int32) (0 : Int32) (0 : Int32) (0 : Int32) ?_ H
  · intro a1_4 a1_6 H
    exact okj_X2_passages_147 v3 a1_4 a1_6 h  H
/-! X0_everyVersion -/
def m_X0_everyVersion (v0 : Nat) (v1 : Int32) (h : Hp) : Option Int32 :=
  (rc h v0 1 (m_X0_versionsOf v0 v1 h)).bind fun x1 => some ((ishlF (1 : Int32) x1) - (1 : Int32))
set_option maxRecDepth 20000 in
theorem ok_X0_everyVersion {r : Int32} {v0 : Nat} {v1 : Int32} {h : Hp} (H : m_X0_everyVersion v0 v1 h = some r) : Ev M_X0_everyVersion [aA v0, aI v1] h (some (aI r), h) := by
  show Go M_X0_everyVersion (some (aI r), h) 0 [some (aA v0), some (aI v1)] [] h
  unfold m_X0_everyVersion at H
  refine go_iconst (v := (1 : Int32)) dX0_everyVersion_0 rfl ?_
  refine go_aloadn dX0_everyVersion_1 rfl ?_
  refine go_iloadn dX0_everyVersion_2 rfl ?_
  obtain ⟨c1, x1, ex1, H⟩ := gm_rc H
  refine go_callV (vs := [aI v1]) (stk := [aI (1 : Int32)]) (o1 := (some (aI x1), h)) mk_X0_versionsOf sv_X0_everyVersion_76 cl_X0 rfl dX0_everyVersion_3 c1 rfl rfl (Nat.le_of_ble_eq_true rfl) (Nat.le_of_ble_eq_true rfl) (ok_X0_versionsOf ex1) (show Go M_X0_everyVersion (some (aI r), h) 6 [some (aA v0), some (aI v1)] [aI x1, aI (1 : Int32)] h from ?_)
  refine go_ishl dX0_everyVersion_6 ?_
  refine go_iconst (v := (1 : Int32)) dX0_everyVersion_7 rfl ?_
  refine go_isub dX0_everyVersion_8 ?_
  obtain rfl := Option.some.inj H
  exact go_ireturn dX0_everyVersion_9 (tyI_int rfl)
/-! X2_kept -/
def j_X2_kept_56 (v1 : Nat) (v2 : Int32) (v4 : Int32) (s0 : Int32) (s1 : Int32) (h : Hp) (k : Int32 → Int32 → Option Int32) : Option Int32 :=
  k (s0 + s1) (v4 + (1 : Int32))
set_option maxRecDepth 20000 in
theorem okj_X2_kept_56 {r : Int32} (v1 : Nat) (v2 : Int32) (v4 : Int32) (s0 : Int32) (s1 : Int32) (h : Hp) (k : Int32 → Int32 → Option Int32) (Hk : ∀ (v3q : Int32) (v4q : Int32), k v3q v4q = some r → Go M_X2_kept (some (aI r), h) 5 [none, some (aA v1), some (aI v2), some (aI v3q), some (aI v4q), none] [] h) (H : j_X2_kept_56 v1 v2 v4 s0 s1 h k = some r) : Go M_X2_kept (some (aI r), h) 56 [none, some (aA v1), some (aI v2), none, some (aI v4), none] [aI s1, aI s0] h := by
  unfold j_X2_kept_56 at H
  refine go_iadd dX2_kept_56 ?_
  refine go_istoren (loc2 := [none, some (aA v1), some (aI v2), some (aI (s0 + s1)), some (aI v4), none]) dX2_kept_57 rfl (by decide) rfl ?_
  refine go_iinc (v := (v4 + (1 : Int32))) (loc2 := [none, some (aA v1), some (aI v2), some (aI (s0 + s1)), some (aI (v4 + (1 : Int32))), none]) dX2_kept_58 rfl rfl (by decide) rfl ?_
  refine go_goto (tgt := 5) dX2_kept_61 (by decide) ?_
  exact Hk (s0 + s1) (v4 + (1 : Int32)) H
def j_X2_kept_29 (v1 : Nat) (v2 : Int32) (v3 : Int32) (v4 : Int32) (s0 : Int32) (h : Hp) (k : Int32 → Int32 → Option Int32) : Option Int32 :=
  if s0 = 0 then j_X2_kept_56 v1 v2 v4 v3 (0 : Int32) h k else (rc h v1 1 (m_X0_stayOf v1 v4 h)).bind fun x1 => (rc h v1 1 (m_X0_everyVersion v1 v2 h)).bind fun x2 => j_X2_kept_56 v1 v2 v4 v3 (if ¬ x1 = x2 then (0 : Int32) else (1 : Int32)) h k
set_option maxRecDepth 20000 in
theorem okj_X2_kept_29 {r : Int32} (v1 : Nat) (v2 : Int32) (v3 : Int32) (v4 : Int32) (s0 : Int32) (h : Hp) (k : Int32 → Int32 → Option Int32) (Hk : ∀ (v3q : Int32) (v4q : Int32), k v3q v4q = some r → Go M_X2_kept (some (aI r), h) 5 [none, some (aA v1), some (aI v2), some (aI v3q), some (aI v4q), none] [] h) (H : j_X2_kept_29 v1 v2 v3 v4 s0 h k = some r) : Go M_X2_kept (some (aI r), h) 29 [none, some (aA v1), some (aI v2), some (aI v3), some (aI v4), none] [aI s0] h := by
  unfold j_X2_kept_29 at H
  refine go_istore (loc2 := [none, some (aA v1), some (aI v2), some (aI v3), some (aI v4), some (aI s0)]) dX2_kept_29 (by decide) rfl ?_
  refine go_iloadn dX2_kept_31 rfl ?_
  refine go_iload dX2_kept_32 rfl ?_
  refine go_if_eq (tgt := 55) dX2_kept_34 (by decide) (fun c1 => ?_) (fun c1 => ?_)
  · replace H := (gm_ite H).1 c1
    refine go_iconst (v := (0 : Int32)) dX2_kept_55 rfl ?_
    refine go_mask [false, true, true, false, true, false] (loc' := [none, some (aA v1), some (aI v2), none, some (aI v4), none]) rfl ?_
    exact okj_X2_kept_56 v1 v2 v4 v3 (0 : Int32) h k Hk H
  · replace H := (gm_ite H).2 c1
    refine go_aloadn dX2_kept_37 rfl ?_
    refine go_iload dX2_kept_38 rfl ?_
    obtain ⟨c2, x1, ex1, H⟩ := gm_rc H
    refine go_callV (vs := [aI v4]) (stk := [aI v3]) (o1 := (some (aI x1), h)) mk_X0_stayOf sv_X2_kept_32 cl_X0 rfl dX2_kept_40 c2 rfl rfl (Nat.le_of_ble_eq_true rfl) (Nat.le_of_ble_eq_true rfl) (ok_X0_stayOf ex1) (show Go M_X2_kept (some (aI r), h) 43 [none, some (aA v1), some (aI v2), some (aI v3), some (aI v4), some (aI s0)] [aI x1, aI v3] h from ?_)
    refine go_aloadn dX2_kept_43 rfl ?_
    refine go_iloadn dX2_kept_44 rfl ?_
    obtain ⟨c3, x2, ex2, H⟩ := gm_rc H
    refine go_callV (vs := [aI v2]) (stk := [aI x1, aI v3]) (o1 := (some (aI x2), h)) mk_X0_everyVersion sv_X2_kept_80 cl_X0 rfl dX2_kept_45 c3 rfl rfl (Nat.le_of_ble_eq_true rfl) (Nat.le_of_ble_eq_true rfl) (ok_X0_everyVersion ex2) (show Go M_X2_kept (some (aI r), h) 48 [none, some (aA v1), some (aI v2), some (aI v3), some (aI v4), some (aI s0)] [aI x2, aI x1, aI v3] h from ?_)
    refine go_icmp_ne (tgt := 55) dX2_kept_48 (by decide) (fun c4 => ?_) (fun c4 => ?_)
    · rw [if_pos c4] at H
      refine go_iconst (v := (0 : Int32)) dX2_kept_55 rfl ?_
      refine go_mask [false, true, true, false, true, false] (loc' := [none, some (aA v1), some (aI v2), none, some (aI v4), none]) rfl ?_
      exact okj_X2_kept_56 v1 v2 v4 v3 (0 : Int32) h k Hk H
    · rw [if_neg c4] at H
      refine go_iconst (v := (1 : Int32)) dX2_kept_51 rfl ?_
      refine go_goto (tgt := 56) dX2_kept_52 (by decide) ?_
      refine go_mask [false, true, true, false, true, false] (loc' := [none, some (aA v1), some (aI v2), none, some (aI v4), none]) rfl ?_
      exact okj_X2_kept_56 v1 v2 v4 v3 (1 : Int32) h k Hk H
def b_X2_kept_5 (v1 : Nat) (v2 : Int32) (h : Hp) (k : Int32 → Int32 → Option Int32) (v3 : Int32) (v4 : Int32) : Option Int32 :=
  (gfI h v1 1 1).bind fun x1 => if x1 ≤ v4 then (some v3) else (rc h v1 1 (m_X0_ownerOf v1 v4 h)).bind fun x2 => j_X2_kept_29 v1 v2 v3 v4 (if ¬ x2 = v2 then (0 : Int32) else (1 : Int32)) h k
set_option maxRecDepth 20000 in
theorem okb_X2_kept_5 {r : Int32} (v1 : Nat) (v2 : Int32) (h : Hp) (k : Int32 → Int32 → Option Int32) (v3 : Int32) (v4 : Int32) (Hk : ∀ (v3q : Int32) (v4q : Int32), k v3q v4q = some r → Go M_X2_kept (some (aI r), h) 5 [none, some (aA v1), some (aI v2), some (aI v3q), some (aI v4q), none] [] h) (H : b_X2_kept_5 v1 v2 h k v3 v4 = some r) : Go M_X2_kept (some (aI r), h) 5 [none, some (aA v1), some (aI v2), some (aI v3), some (aI v4), none] [] h := by
  unfold b_X2_kept_5 at H
  refine go_iload dX2_kept_5 rfl ?_
  refine go_aloadn dX2_kept_7 rfl ?_
  refine gm_getI fd_X2_29 dX2_kept_8 H (fun x1 H => ?_)
  refine go_icmp_ge (tgt := 64) dX2_kept_11 (by decide) (fun c1 => ?_) (fun c1 => ?_)
  · replace H := (gm_ite H).1 c1
    refine go_iloadn dX2_kept_64 rfl ?_
    obtain rfl := Option.some.inj H
    exact go_ireturn dX2_kept_65 (tyI_int rfl)
  · replace H := (gm_ite H).2 c1
    refine go_aloadn dX2_kept_14 rfl ?_
    refine go_iload dX2_kept_15 rfl ?_
    obtain ⟨c2, x2, ex2, H⟩ := gm_rc H
    refine go_callV (vs := [aI v4]) (stk := []) (o1 := (some (aI x2), h)) mk_X0_ownerOf sv_X2_kept_77 cl_X0 rfl dX2_kept_17 c2 rfl rfl (Nat.le_of_ble_eq_true rfl) (Nat.le_of_ble_eq_true rfl) (ok_X0_ownerOf ex2) (show Go M_X2_kept (some (aI r), h) 20 [none, some (aA v1), some (aI v2), some (aI v3), some (aI v4), none] [aI x2] h from ?_)
    refine go_iloadn dX2_kept_20 rfl ?_
    refine go_icmp_ne (tgt := 28) dX2_kept_21 (by decide) (fun c3 => ?_) (fun c3 => ?_)
    · rw [if_pos c3] at H
      refine go_iconst (v := (0 : Int32)) dX2_kept_28 rfl ?_
      exact okj_X2_kept_29 v1 v2 v3 v4 (0 : Int32) h k Hk H
    · rw [if_neg c3] at H
      refine go_iconst (v := (1 : Int32)) dX2_kept_24 rfl ?_
      refine go_goto (tgt := 29) dX2_kept_25 (by decide) ?_
      exact okj_X2_kept_29 v1 v2 v3 v4 (1 : Int32) h k Hk H
def l_X2_kept_5 (v1 : Nat) (v2 : Int32) (h : Hp) (v3 : Int32) (v4 : Int32) : Option Int32 := loopK FUEL (fun (k : Int32 × Int32 → Option Int32) (s : Int32 × Int32) => b_X2_kept_5 v1 v2 h (fun v3q v4q => k (v3q, v4q)) s.1 s.2) (v3, v4)
theorem okl_X2_kept_5 {r : Int32} (v1 : Nat) (v2 : Int32) (h : Hp) (v3 : Int32) (v4 : Int32) (H : l_X2_kept_5 v1 v2 h v3 v4 = some r) : Go M_X2_kept (some (aI r), h) 5 [none, some (aA v1), some (aI v2), some (aI v3), some (aI v4), none] [] h := by
  unfold l_X2_kept_5 at H
  exact go_loop (σ := Int32 × Int32) (body := (fun (k : Int32 × Int32 → Option Int32) (s : Int32 × Int32) => b_X2_kept_5 v1 v2 h (fun v3q v4q => k (v3q, v4q)) s.1 s.2)) (fun s => [none, some (aA v1), some (aI v2), some (aI s.1), some (aI s.2), none]) (fun s => h) (fun k s Hk H => okb_X2_kept_5 v1 v2 h (fun v3q v4q => k (v3q, v4q)) s.1 s.2  (fun v3q v4q H => Hk (v3q, v4q) H) H) FUEL (v3, v4) H
def m_X2_kept (v0 : Nat) (v1 : Nat) (v2 : Int32) (h : Hp) : Option Int32 :=
  l_X2_kept_5 v1 v2 h (0 : Int32) (0 : Int32)
set_option maxRecDepth 20000 in
theorem ok_X2_kept {r : Int32} {v0 : Nat} {v1 : Nat} {v2 : Int32} {h : Hp} (H : m_X2_kept v0 v1 v2 h = some r) : Ev M_X2_kept [aA v0, aA v1, aI v2] h (some (aI r), h) := by
  show Go M_X2_kept (some (aI r), h) 0 [some (aA v0), some (aA v1), some (aI v2), none, none, none] [] h
  unfold m_X2_kept at H
  refine go_iconst (v := (0 : Int32)) dX2_kept_0 rfl ?_
  refine go_istoren (loc2 := [some (aA v0), some (aA v1), some (aI v2), some (aI (0 : Int32)), none, none]) dX2_kept_1 rfl (by decide) rfl ?_
  refine go_iconst (v := (0 : Int32)) dX2_kept_2 rfl ?_
  refine go_istore (loc2 := [some (aA v0), some (aA v1), some (aI v2), some (aI (0 : Int32)), some (aI (0 : Int32)), none]) dX2_kept_3 (by decide) rfl ?_
  refine go_mask [false, true, true, true, true, false] (loc' := [none, some (aA v1), some (aI v2), some (aI (0 : Int32)), some (aI (0 : Int32)), none]) rfl ?_
  exact okl_X2_kept_5 v1 v2 h (0 : Int32) (0 : Int32) H
/-! X2_wasBefore -/
def b_X2_wasBefore_3 (v0 : Nat) (v1 : Nat) (v2 : Int32) (v3 : Int32) (h : Hp) (k : Int32 → Option Int32) (v4 : Int32) : Option Int32 :=
  if v3 ≤ v4 then (some (0 : Int32)) else (rc h v0 3 (m_X2_sameWords v0 v1 v2 v3 v2 v4 h)).bind fun x1 => if x1 = 0 then (k (v4 + (1 : Int32))) else some (1 : Int32)
set_option maxRecDepth 20000 in
theorem okb_X2_wasBefore_3 {r : Int32} (v0 : Nat) (v1 : Nat) (v2 : Int32) (v3 : Int32) (h : Hp) (k : Int32 → Option Int32) (v4 : Int32) (Hk : ∀ (v4q : Int32), k v4q = some r → Go M_X2_wasBefore (some (aI r), h) 3 [some (aA v0), some (aA v1), some (aI v2), some (aI v3), some (aI v4q)] [] h) (H : b_X2_wasBefore_3 v0 v1 v2 v3 h k v4 = some r) : Go M_X2_wasBefore (some (aI r), h) 3 [some (aA v0), some (aA v1), some (aI v2), some (aI v3), some (aI v4)] [] h := by
  unfold b_X2_wasBefore_3 at H
  refine go_iload dX2_wasBefore_3 rfl ?_
  refine go_iloadn dX2_wasBefore_5 rfl ?_
  refine go_icmp_ge (tgt := 30) dX2_wasBefore_6 (by decide) (fun c1 => ?_) (fun c1 => ?_)
  · replace H := (gm_ite H).1 c1
    refine go_iconst (v := (0 : Int32)) dX2_wasBefore_30 rfl ?_
    obtain rfl := Option.some.inj H
    exact go_ireturn (x := (0 : Int32)) dX2_wasBefore_31 (tyI_bool rfl (by decide))
  · replace H := (gm_ite H).2 c1
    refine go_aloadn dX2_wasBefore_9 rfl ?_
    refine go_aloadn dX2_wasBefore_10 rfl ?_
    refine go_iloadn dX2_wasBefore_11 rfl ?_
    refine go_iloadn dX2_wasBefore_12 rfl ?_
    refine go_iloadn dX2_wasBefore_13 rfl ?_
    refine go_iload dX2_wasBefore_14 rfl ?_
    obtain ⟨c2, x1, ex1, H⟩ := gm_rc H
    refine go_callV (vs := [aA v1, aI v2, aI v3, aI v2, aI v4]) (stk := []) (o1 := (some (aI x1), h)) mk_X2_sameWords sv_X2_wasBefore_47 cl_X2 rfl dX2_wasBefore_16 c2 rfl rfl (Nat.le_of_ble_eq_true rfl) (Nat.le_of_ble_eq_true rfl) (ok_X2_sameWords ex1) (show Go M_X2_wasBefore (some (aI r), h) 19 [some (aA v0), some (aA v1), some (aI v2), some (aI v3), some (aI v4)] [aI x1] h from ?_)
    refine go_if_eq (tgt := 24) dX2_wasBefore_19 (by decide) (fun c3 => ?_) (fun c3 => ?_)
    · replace H := (gm_ite H).1 c3
      refine go_iinc (v := (v4 + (1 : Int32))) (loc2 := [some (aA v0), some (aA v1), some (aI v2), some (aI v3), some (aI (v4 + (1 : Int32)))]) dX2_wasBefore_24 rfl rfl (by decide) rfl ?_
      refine go_goto (tgt := 3) dX2_wasBefore_27 (by decide) ?_
      exact Hk (v4 + (1 : Int32)) H
    · replace H := (gm_ite H).2 c3
      refine go_iconst (v := (1 : Int32)) dX2_wasBefore_22 rfl ?_
      obtain rfl := Option.some.inj H
      exact go_ireturn (x := (1 : Int32)) dX2_wasBefore_23 (tyI_bool rfl (by decide))
def l_X2_wasBefore_3 (v0 : Nat) (v1 : Nat) (v2 : Int32) (v3 : Int32) (h : Hp) (v4 : Int32) : Option Int32 := loopK FUEL (fun (k : Int32 → Option Int32) (s : Int32) => b_X2_wasBefore_3 v0 v1 v2 v3 h (fun v4q => k v4q) s) v4
theorem okl_X2_wasBefore_3 {r : Int32} (v0 : Nat) (v1 : Nat) (v2 : Int32) (v3 : Int32) (h : Hp) (v4 : Int32) (H : l_X2_wasBefore_3 v0 v1 v2 v3 h v4 = some r) : Go M_X2_wasBefore (some (aI r), h) 3 [some (aA v0), some (aA v1), some (aI v2), some (aI v3), some (aI v4)] [] h := by
  unfold l_X2_wasBefore_3 at H
  exact go_loop (σ := Int32) (body := (fun (k : Int32 → Option Int32) (s : Int32) => b_X2_wasBefore_3 v0 v1 v2 v3 h (fun v4q => k v4q) s)) (fun s => [some (aA v0), some (aA v1), some (aI v2), some (aI v3), some (aI s)]) (fun s => h) (fun k s Hk H => okb_X2_wasBefore_3 v0 v1 v2 v3 h (fun v4q => k v4q) s  (fun v4q H => Hk v4q H) H) FUEL v4 H
def m_X2_wasBefore (v0 : Nat) (v1 : Nat) (v2 : Int32) (v3 : Int32) (h : Hp) : Option Int32 :=
  l_X2_wasBefore_3 v0 v1 v2 v3 h (0 : Int32)
set_option maxRecDepth 20000 in
theorem ok_X2_wasBefore {r : Int32} {v0 : Nat} {v1 : Nat} {v2 : Int32} {v3 : Int32} {h : Hp} (H : m_X2_wasBefore v0 v1 v2 v3 h = some r) : Ev M_X2_wasBefore [aA v0, aA v1, aI v2, aI v3] h (some (aI r), h) := by
  show Go M_X2_wasBefore (some (aI r), h) 0 [some (aA v0), some (aA v1), some (aI v2), some (aI v3), none] [] h
  unfold m_X2_wasBefore at H
  refine go_iconst (v := (0 : Int32)) dX2_wasBefore_0 rfl ?_
  refine go_istore (loc2 := [some (aA v0), some (aA v1), some (aI v2), some (aI v3), some (aI (0 : Int32))]) dX2_wasBefore_1 (by decide) rfl ?_
  exact okl_X2_wasBefore_3 v0 v1 v2 v3 h (0 : Int32) H
/-! X2_returns -/
def j_X2_returns_60 (v0 : Nat) (v1 : Nat) (v2 : Int32) (v4 : Int32) (s0 : Int32) (s1 : Int32) (h : Hp) (k : Int32 → Int32 → Option Int32) : Option Int32 :=
  k (s0 + s1) (v4 + (1 : Int32))
set_option maxRecDepth 20000 in
theorem okj_X2_returns_60 {r : Int32} (v0 : Nat) (v1 : Nat) (v2 : Int32) (v4 : Int32) (s0 : Int32) (s1 : Int32) (h : Hp) (k : Int32 → Int32 → Option Int32) (Hk : ∀ (v3q : Int32) (v4q : Int32), k v3q v4q = some r → Go M_X2_returns (some (aI r), h) 5 [some (aA v0), some (aA v1), some (aI v2), some (aI v3q), some (aI v4q), none] [] h) (H : j_X2_returns_60 v0 v1 v2 v4 s0 s1 h k = some r) : Go M_X2_returns (some (aI r), h) 60 [some (aA v0), some (aA v1), some (aI v2), none, some (aI v4), none] [aI s1, aI s0] h := by
  unfold j_X2_returns_60 at H
  refine go_iadd dX2_returns_60 ?_
  refine go_istoren (loc2 := [some (aA v0), some (aA v1), some (aI v2), some (aI (s0 + s1)), some (aI v4), none]) dX2_returns_61 rfl (by decide) rfl ?_
  refine go_iinc (v := (v4 + (1 : Int32))) (loc2 := [some (aA v0), some (aA v1), some (aI v2), some (aI (s0 + s1)), some (aI (v4 + (1 : Int32))), none]) dX2_returns_62 rfl rfl (by decide) rfl ?_
  refine go_goto (tgt := 5) dX2_returns_65 (by decide) ?_
  exact Hk (s0 + s1) (v4 + (1 : Int32)) H
def j_X2_returns_36 (v0 : Nat) (v1 : Nat) (v2 : Int32) (v3 : Int32) (v4 : Int32) (s0 : Int32) (h : Hp) (k : Int32 → Int32 → Option Int32) : Option Int32 :=
  if s0 = 0 then j_X2_returns_60 v0 v1 v2 v4 v3 (0 : Int32) h k else (rc h v0 3 (m_X2_wasBefore v0 v1 v2 v4 h)).bind fun x1 => j_X2_returns_60 v0 v1 v2 v4 v3 (if x1 = 0 then (0 : Int32) else (1 : Int32)) h k
set_option maxRecDepth 20000 in
theorem okj_X2_returns_36 {r : Int32} (v0 : Nat) (v1 : Nat) (v2 : Int32) (v3 : Int32) (v4 : Int32) (s0 : Int32) (h : Hp) (k : Int32 → Int32 → Option Int32) (Hk : ∀ (v3q : Int32) (v4q : Int32), k v3q v4q = some r → Go M_X2_returns (some (aI r), h) 5 [some (aA v0), some (aA v1), some (aI v2), some (aI v3q), some (aI v4q), none] [] h) (H : j_X2_returns_36 v0 v1 v2 v3 v4 s0 h k = some r) : Go M_X2_returns (some (aI r), h) 36 [some (aA v0), some (aA v1), some (aI v2), some (aI v3), some (aI v4), none] [aI s0] h := by
  unfold j_X2_returns_36 at H
  refine go_istore (loc2 := [some (aA v0), some (aA v1), some (aI v2), some (aI v3), some (aI v4), some (aI s0)]) dX2_returns_36 (by decide) rfl ?_
  refine go_iloadn dX2_returns_38 rfl ?_
  refine go_iload dX2_returns_39 rfl ?_
  refine go_if_eq (tgt := 59) dX2_returns_41 (by decide) (fun c1 => ?_) (fun c1 => ?_)
  · replace H := (gm_ite H).1 c1
    refine go_iconst (v := (0 : Int32)) dX2_returns_59 rfl ?_
    refine go_mask [true, true, true, false, true, false] (loc' := [some (aA v0), some (aA v1), some (aI v2), none, some (aI v4), none]) rfl ?_
    exact okj_X2_returns_60 v0 v1 v2 v4 v3 (0 : Int32) h k Hk H
  · replace H := (gm_ite H).2 c1
    refine go_aloadn dX2_returns_44 rfl ?_
    refine go_aloadn dX2_returns_45 rfl ?_
    refine go_iloadn dX2_returns_46 rfl ?_
    refine go_iload dX2_returns_47 rfl ?_
    obtain ⟨c2, x1, ex1, H⟩ := gm_rc H
    refine go_callV (vs := [aA v1, aI v2, aI v4]) (stk := [aI v3]) (o1 := (some (aI x1), h)) mk_X2_wasBefore sv_X2_returns_83 cl_X2 rfl dX2_returns_49 c2 rfl rfl (Nat.le_of_ble_eq_true rfl) (Nat.le_of_ble_eq_true rfl) (ok_X2_wasBefore ex1) (show Go M_X2_returns (some (aI r), h) 52 [some (aA v0), some (aA v1), some (aI v2), some (aI v3), some (aI v4), some (aI s0)] [aI x1, aI v3] h from ?_)
    refine go_if_eq (tgt := 59) dX2_returns_52 (by decide) (fun c3 => ?_) (fun c3 => ?_)
    · rw [if_pos c3] at H
      refine go_iconst (v := (0 : Int32)) dX2_returns_59 rfl ?_
      refine go_mask [true, true, true, false, true, false] (loc' := [some (aA v0), some (aA v1), some (aI v2), none, some (aI v4), none]) rfl ?_
      exact okj_X2_returns_60 v0 v1 v2 v4 v3 (0 : Int32) h k Hk H
    · rw [if_neg c3] at H
      refine go_iconst (v := (1 : Int32)) dX2_returns_55 rfl ?_
      refine go_goto (tgt := 60) dX2_returns_56 (by decide) ?_
      refine go_mask [true, true, true, false, true, false] (loc' := [some (aA v0), some (aA v1), some (aI v2), none, some (aI v4), none]) rfl ?_
      exact okj_X2_returns_60 v0 v1 v2 v4 v3 (1 : Int32) h k Hk H
def b_X2_returns_5 (v0 : Nat) (v1 : Nat) (v2 : Int32) (h : Hp) (k : Int32 → Int32 → Option Int32) (v3 : Int32) (v4 : Int32) : Option Int32 :=
  (rc h v1 1 (m_X0_versionsOf v1 v2 h)).bind fun x1 => if x1 ≤ v4 then (some v3) else (rc h v0 3 (m_X2_sameWords v0 v1 v2 v4 v2 (v4 - (1 : Int32)) h)).bind fun x2 => j_X2_returns_36 v0 v1 v2 v3 v4 (if ¬ x2 = 0 then (0 : Int32) else (1 : Int32)) h k
set_option maxRecDepth 20000 in
theorem okb_X2_returns_5 {r : Int32} (v0 : Nat) (v1 : Nat) (v2 : Int32) (h : Hp) (k : Int32 → Int32 → Option Int32) (v3 : Int32) (v4 : Int32) (Hk : ∀ (v3q : Int32) (v4q : Int32), k v3q v4q = some r → Go M_X2_returns (some (aI r), h) 5 [some (aA v0), some (aA v1), some (aI v2), some (aI v3q), some (aI v4q), none] [] h) (H : b_X2_returns_5 v0 v1 v2 h k v3 v4 = some r) : Go M_X2_returns (some (aI r), h) 5 [some (aA v0), some (aA v1), some (aI v2), some (aI v3), some (aI v4), none] [] h := by
  unfold b_X2_returns_5 at H
  refine go_iload dX2_returns_5 rfl ?_
  refine go_aloadn dX2_returns_7 rfl ?_
  refine go_iloadn dX2_returns_8 rfl ?_
  obtain ⟨c1, x1, ex1, H⟩ := gm_rc H
  refine go_callV (vs := [aI v2]) (stk := [aI v4]) (o1 := (some (aI x1), h)) mk_X0_versionsOf sv_X2_returns_21 cl_X0 rfl dX2_returns_9 c1 rfl rfl (Nat.le_of_ble_eq_true rfl) (Nat.le_of_ble_eq_true rfl) (ok_X0_versionsOf ex1) (show Go M_X2_returns (some (aI r), h) 12 [some (aA v0), some (aA v1), some (aI v2), some (aI v3), some (aI v4), none] [aI x1, aI v4] h from ?_)
  refine go_icmp_ge (tgt := 68) dX2_returns_12 (by decide) (fun c2 => ?_) (fun c2 => ?_)
  · replace H := (gm_ite H).1 c2
    refine go_iloadn dX2_returns_68 rfl ?_
    obtain rfl := Option.some.inj H
    exact go_ireturn dX2_returns_69 (tyI_int rfl)
  · replace H := (gm_ite H).2 c2
    refine go_aloadn dX2_returns_15 rfl ?_
    refine go_aloadn dX2_returns_16 rfl ?_
    refine go_iloadn dX2_returns_17 rfl ?_
    refine go_iload dX2_returns_18 rfl ?_
    refine go_iloadn dX2_returns_20 rfl ?_
    refine go_iload dX2_returns_21 rfl ?_
    refine go_iconst (v := (1 : Int32)) dX2_returns_23 rfl ?_
    refine go_isub dX2_returns_24 ?_
    obtain ⟨c3, x2, ex2, H⟩ := gm_rc H
    refine go_callV (vs := [aA v1, aI v2, aI v4, aI v2, aI (v4 - (1 : Int32))]) (stk := []) (o1 := (some (aI x2), h)) mk_X2_sameWords sv_X2_returns_47 cl_X2 rfl dX2_returns_25 c3 rfl rfl (Nat.le_of_ble_eq_true rfl) (Nat.le_of_ble_eq_true rfl) (ok_X2_sameWords ex2) (show Go M_X2_returns (some (aI r), h) 28 [some (aA v0), some (aA v1), some (aI v2), some (aI v3), some (aI v4), none] [aI x2] h from ?_)
    refine go_if_ne (tgt := 35) dX2_returns_28 (by decide) (fun c4 => ?_) (fun c4 => ?_)
    · rw [if_pos c4] at H
      refine go_iconst (v := (0 : Int32)) dX2_returns_35 rfl ?_
      exact okj_X2_returns_36 v0 v1 v2 v3 v4 (0 : Int32) h k Hk H
    · rw [if_neg c4] at H
      refine go_iconst (v := (1 : Int32)) dX2_returns_31 rfl ?_
      refine go_goto (tgt := 36) dX2_returns_32 (by decide) ?_
      exact okj_X2_returns_36 v0 v1 v2 v3 v4 (1 : Int32) h k Hk H
def l_X2_returns_5 (v0 : Nat) (v1 : Nat) (v2 : Int32) (h : Hp) (v3 : Int32) (v4 : Int32) : Option Int32 := loopK FUEL (fun (k : Int32 × Int32 → Option Int32) (s : Int32 × Int32) => b_X2_returns_5 v0 v1 v2 h (fun v3q v4q => k (v3q, v4q)) s.1 s.2) (v3, v4)
theorem okl_X2_returns_5 {r : Int32} (v0 : Nat) (v1 : Nat) (v2 : Int32) (h : Hp) (v3 : Int32) (v4 : Int32) (H : l_X2_returns_5 v0 v1 v2 h v3 v4 = some r) : Go M_X2_returns (some (aI r), h) 5 [some (aA v0), some (aA v1), some (aI v2), some (aI v3), some (aI v4), none] [] h := by
  unfold l_X2_returns_5 at H
  exact go_loop (σ := Int32 × Int32) (body := (fun (k : Int32 × Int32 → Option Int32) (s : Int32 × Int32) => b_X2_returns_5 v0 v1 v2 h (fun v3q v4q => k (v3q, v4q)) s.1 s.2)) (fun s => [some (aA v0), some (aA v1), some (aI v2), some (aI s.1), some (aI s.2), none]) (fun s => h) (fun k s Hk H => okb_X2_returns_5 v0 v1 v2 h (fun v3q v4q => k (v3q, v4q)) s.1 s.2  (fun v3q v4q H => Hk (v3q, v4q) H) H) FUEL (v3, v4) H
def m_X2_returns (v0 : Nat) (v1 : Nat) (v2 : Int32) (h : Hp) : Option Int32 :=
  l_X2_returns_5 v0 v1 v2 h (0 : Int32) (2 : Int32)
set_option maxRecDepth 20000 in
theorem ok_X2_returns {r : Int32} {v0 : Nat} {v1 : Nat} {v2 : Int32} {h : Hp} (H : m_X2_returns v0 v1 v2 h = some r) : Ev M_X2_returns [aA v0, aA v1, aI v2] h (some (aI r), h) := by
  show Go M_X2_returns (some (aI r), h) 0 [some (aA v0), some (aA v1), some (aI v2), none, none, none] [] h
  unfold m_X2_returns at H
  refine go_iconst (v := (0 : Int32)) dX2_returns_0 rfl ?_
  refine go_istoren (loc2 := [some (aA v0), some (aA v1), some (aI v2), some (aI (0 : Int32)), none, none]) dX2_returns_1 rfl (by decide) rfl ?_
  refine go_iconst (v := (2 : Int32)) dX2_returns_2 rfl ?_
  refine go_istore (loc2 := [some (aA v0), some (aA v1), some (aI v2), some (aI (0 : Int32)), some (aI (2 : Int32)), none]) dX2_returns_3 (by decide) rfl ?_
  exact okl_X2_returns_5 v0 v1 v2 h (0 : Int32) (2 : Int32) H
/-! X11_ofDocument -/
def m_X11_ofDocument (v0 : Nat) (v1 : Nat) (v2 : Int32) (h : Hp) : Option Int32 :=
  if v2 < (10 : Int32) then (some (-2 : Int32)) else (rc h v1 1 (m_X0_hasDocument v1 (iremF v2 (10 : Int32)) h)).bind fun x1 => if ¬ x1 = 0 then (if (v2 / (10 : Int32)) = (1 : Int32) then ((rc h v1 1 (m_X0_versionsOf v1 (iremF v2 (10 : Int32)) h)).bind fun x2 => some x2) else if (v2 / (10 : Int32)) = (2 : Int32) then ((gfR h v0 11 3).bind fun x3 => (rc h x3 3 (m_X2_passages x3 v1 (iremF v2 (10 : Int32)) (0 : Int32) h)).bind fun x4 => some x4) else if (v2 / (10 : Int32)) = (3 : Int32) then ((gfR h v0 11 3).bind fun x5 => (rc h x5 3 (m_X2_passages x5 v1 (iremF v2 (10 : Int32)) (1 : Int32) h)).bind fun x6 => some x6) else if (v2 / (10 : Int32)) = (4 : Int32) then ((gfR h v0 11 3).bind fun x7 => (rc h x7 3 (m_X2_kept x7 v1 (iremF v2 (10 : Int32)) h)).bind fun x8 => some x8) else if (v2 / (10 : Int32)) = (5 : Int32) then ((gfR h v0 11 3).bind fun x9 => (rc h x9 3 (m_X2_returns x9 v1 (iremF v2 (10 : Int32)) h)).bind fun x10 => some x10) else some (-2 : Int32)) else some (-2 : Int32)
set_option maxRecDepth 20000 in
theorem ok_X11_ofDocument {r : Int32} {v0 : Nat} {v1 : Nat} {v2 : Int32} {h : Hp} (H : m_X11_ofDocument v0 v1 v2 h = some r) : Ev M_X11_ofDocument [aA v0, aA v1, aI v2] h (some (aI r), h) := by
  show Go M_X11_ofDocument (some (aI r), h) 0 [some (aA v0), some (aA v1), some (aI v2), none] [] h
  unfold m_X11_ofDocument at H
  refine go_iloadn dX11_ofDocument_0 rfl ?_
  refine go_bipush (v := (10 : Int32)) dX11_ofDocument_1 rfl ?_
  refine go_irem dX11_ofDocument_3 (by decide) ?_
  refine go_istoren (loc2 := [some (aA v0), some (aA v1), some (aI v2), some (aI (iremF v2 (10 : Int32)))]) dX11_ofDocument_4 rfl (by decide) rfl ?_
  refine go_iloadn dX11_ofDocument_5 rfl ?_
  refine go_bipush (v := (10 : Int32)) dX11_ofDocument_6 rfl ?_
  refine go_icmp_lt (tgt := 19) dX11_ofDocument_8 (by decide) (fun c1 => ?_) (fun c1 => ?_)
  · replace H := (gm_ite H).1 c1
    refine go_bipush (v := (-2 : Int32)) dX11_ofDocument_19 rfl ?_
    obtain rfl := Option.some.inj H
    exact go_ireturn dX11_ofDocument_21 (tyI_int rfl)
  · replace H := (gm_ite H).2 c1
    refine go_aloadn dX11_ofDocument_11 rfl ?_
    refine go_iloadn dX11_ofDocument_12 rfl ?_
    obtain ⟨c2, x1, ex1, H⟩ := gm_rc H
    refine go_callV (vs := [aI (iremF v2 (10 : Int32))]) (stk := []) (o1 := (some (aI x1), h)) mk_X0_hasDocument sv_X11_ofDocument_122 cl_X0 rfl dX11_ofDocument_13 c2 rfl rfl (Nat.le_of_ble_eq_true rfl) (Nat.le_of_ble_eq_true rfl) (ok_X0_hasDocument ex1) (show Go M_X11_ofDocument (some (aI r), h) 16 [some (aA v0), some (aA v1), some (aI v2), some (aI (iremF v2 (10 : Int32)))] [aI x1] h from ?_)
    refine go_if_ne (tgt := 22) dX11_ofDocument_16 (by decide) (fun c3 => ?_) (fun c3 => ?_)
    · replace H := (gm_ite H).1 c3
      refine go_iloadn dX11_ofDocument_22 rfl ?_
      refine go_bipush (v := (10 : Int32)) dX11_ofDocument_23 rfl ?_
      refine go_idiv dX11_ofDocument_25 (by decide) ?_
      by_cases c4 : (v2 / (10 : Int32)) = (1 : Int32)
      · replace H := (gm_ite H).1 c4
        refine go_eqI c4 ?_
        refine go_tableIn (tgt := 60) dX11_ofDocument_26 (by decide) (by decide) rfl (by decide) ?_
        refine go_aloadn dX11_ofDocument_60 rfl ?_
        refine go_iloadn dX11_ofDocument_61 rfl ?_
        obtain ⟨c5, x2, ex2, H⟩ := gm_rc H
        refine go_callV (vs := [aI (iremF v2 (10 : Int32))]) (stk := []) (o1 := (some (aI x2), h)) mk_X0_versionsOf sv_X11_ofDocument_126 cl_X0 rfl dX11_ofDocument_62 c5 rfl rfl (Nat.le_of_ble_eq_true rfl) (Nat.le_of_ble_eq_true rfl) (ok_X0_versionsOf ex2) (show Go M_X11_ofDocument (some (aI r), h) 65 [some (aA v0), some (aA v1), some (aI v2), some (aI (iremF v2 (10 : Int32)))] [aI x2] h from ?_)
        obtain rfl := Option.some.inj H
        exact go_ireturn dX11_ofDocument_65 (tyI_int rfl)
      · replace H := (gm_ite H).2 c4
        by_cases c6 : (v2 / (10 : Int32)) = (2 : Int32)
        · replace H := (gm_ite H).1 c6
          refine go_eqI c6 ?_
          refine go_tableIn (tgt := 66) dX11_ofDocument_26 (by decide) (by decide) rfl (by decide) ?_
          refine go_aloadn dX11_ofDocument_66 rfl ?_
          refine gm_getR fd_X11_30 dX11_ofDocument_67 H (fun x3 H => ?_)
          refine go_aloadn dX11_ofDocument_70 rfl ?_
          refine go_iloadn dX11_ofDocument_71 rfl ?_
          refine go_iconst (v := (0 : Int32)) dX11_ofDocument_72 rfl ?_
          obtain ⟨c7, x4, ex4, H⟩ := gm_rc H
          refine go_callV (vs := [aA v1, aI (iremF v2 (10 : Int32)), aI (0 : Int32)]) (stk := []) (o1 := (some (aI x4), h)) mk_X2_passages sv_X11_ofDocument_130 cl_X2 rfl dX11_ofDocument_73 c7 rfl rfl (Nat.le_of_ble_eq_true rfl) (Nat.le_of_ble_eq_true rfl) (ok_X2_passages ex4) (show Go M_X11_ofDocument (some (aI r), h) 76 [some (aA v0), some (aA v1), some (aI v2), some (aI (iremF v2 (10 : Int32)))] [aI x4] h from ?_)
          obtain rfl := Option.some.inj H
          exact go_ireturn dX11_ofDocument_76 (tyI_int rfl)
        · replace H := (gm_ite H).2 c6
          by_cases c8 : (v2 / (10 : Int32)) = (3 : Int32)
          · replace H := (gm_ite H).1 c8
            refine go_eqI c8 ?_
            refine go_tableIn (tgt := 77) dX11_ofDocument_26 (by decide) (by decide) rfl (by decide) ?_
            refine go_aloadn dX11_ofDocument_77 rfl ?_
            refine gm_getR fd_X11_30 dX11_ofDocument_78 H (fun x5 H => ?_)
            refine go_aloadn dX11_ofDocument_81 rfl ?_
            refine go_iloadn dX11_ofDocument_82 rfl ?_
            refine go_iconst (v := (1 : Int32)) dX11_ofDocument_83 rfl ?_
            obtain ⟨c9, x6, ex6, H⟩ := gm_rc H
            refine go_callV (vs := [aA v1, aI (iremF v2 (10 : Int32)), aI (1 : Int32)]) (stk := []) (o1 := (some (aI x6), h)) mk_X2_passages sv_X11_ofDocument_130 cl_X2 rfl dX11_ofDocument_84 c9 rfl rfl (Nat.le_of_ble_eq_true rfl) (Nat.le_of_ble_eq_true rfl) (ok_X2_passages ex6) (show Go M_X11_ofDocument (some (aI r), h) 87 [some (aA v0), some (aA v1), some (aI v2), some (aI (iremF v2 (10 : Int32)))] [aI x6] h from ?_)
            obtain rfl := Option.some.inj H
            exact go_ireturn dX11_ofDocument_87 (tyI_int rfl)
          · replace H := (gm_ite H).2 c8
            by_cases c10 : (v2 / (10 : Int32)) = (4 : Int32)
            · replace H := (gm_ite H).1 c10
              refine go_eqI c10 ?_
              refine go_tableIn (tgt := 88) dX11_ofDocument_26 (by decide) (by decide) rfl (by decide) ?_
              refine go_aloadn dX11_ofDocument_88 rfl ?_
              refine gm_getR fd_X11_30 dX11_ofDocument_89 H (fun x7 H => ?_)
              refine go_aloadn dX11_ofDocument_92 rfl ?_
              refine go_iloadn dX11_ofDocument_93 rfl ?_
              obtain ⟨c11, x8, ex8, H⟩ := gm_rc H
              refine go_callV (vs := [aA v1, aI (iremF v2 (10 : Int32))]) (stk := []) (o1 := (some (aI x8), h)) mk_X2_kept sv_X11_ofDocument_134 cl_X2 rfl dX11_ofDocument_94 c11 rfl rfl (Nat.le_of_ble_eq_true rfl) (Nat.le_of_ble_eq_true rfl) (ok_X2_kept ex8) (show Go M_X11_ofDocument (some (aI r), h) 97 [some (aA v0), some (aA v1), some (aI v2), some (aI (iremF v2 (10 : Int32)))] [aI x8] h from ?_)
              obtain rfl := Option.some.inj H
              exact go_ireturn dX11_ofDocument_97 (tyI_int rfl)
            · replace H := (gm_ite H).2 c10
              by_cases c12 : (v2 / (10 : Int32)) = (5 : Int32)
              · replace H := (gm_ite H).1 c12
                refine go_eqI c12 ?_
                refine go_tableIn (tgt := 98) dX11_ofDocument_26 (by decide) (by decide) rfl (by decide) ?_
                refine go_aloadn dX11_ofDocument_98 rfl ?_
                refine gm_getR fd_X11_30 dX11_ofDocument_99 H (fun x9 H => ?_)
                refine go_aloadn dX11_ofDocument_102 rfl ?_
                refine go_iloadn dX11_ofDocument_103 rfl ?_
                obtain ⟨c13, x10, ex10, H⟩ := gm_rc H
                refine go_callV (vs := [aA v1, aI (iremF v2 (10 : Int32))]) (stk := []) (o1 := (some (aI x10), h)) mk_X2_returns sv_X11_ofDocument_137 cl_X2 rfl dX11_ofDocument_104 c13 rfl rfl (Nat.le_of_ble_eq_true rfl) (Nat.le_of_ble_eq_true rfl) (ok_X2_returns ex10) (show Go M_X11_ofDocument (some (aI r), h) 107 [some (aA v0), some (aA v1), some (aI v2), some (aI (iremF v2 (10 : Int32)))] [aI x10] h from ?_)
                obtain rfl := Option.some.inj H
                exact go_ireturn dX11_ofDocument_107 (tyI_int rfl)
              · replace H := (gm_ite H).2 c12
                refine go_tableOut (tgt := 108) dX11_ofDocument_26 (sw_out (fun i h1 h2 e => ?_)) (by decide) ?_
                · have h3 : i = 1 ∨ i = 2 ∨ i = 3 ∨ i = 4 ∨ i = 5 := by omega
                  rcases h3 with rfl | rfl | rfl | rfl | rfl
                  · exact sw_ne c4 (by decide) e
                  · exact sw_ne c6 (by decide) e
                  · exact sw_ne c8 (by decide) e
                  · exact sw_ne c10 (by decide) e
                  · exact sw_ne c12 (by decide) e
                · skip
                  refine go_bipush (v := (-2 : Int32)) dX11_ofDocument_108 rfl ?_
                  obtain rfl := Option.some.inj H
                  exact go_ireturn dX11_ofDocument_110 (tyI_int rfl)
    · replace H := (gm_ite H).2 c3
      refine go_bipush (v := (-2 : Int32)) dX11_ofDocument_19 rfl ?_
      obtain rfl := Option.some.inj H
      exact go_ireturn dX11_ofDocument_21 (tyI_int rfl)
/-! X11_archive -/
def m_X11_archive (v0 : Nat) (v1 : Int32) (v2 : Int32) (h : Hp) : Option Int32 :=
  (gfR h v0 11 0).bind fun x1 => (rc h x1 9 (m_X9_archiveAt x1 v1 h)).bind fun x2 => (nz x2).bind fun _ => if ¬ x2 = 0 then (if v2 = (0 : Int32) then ((gfI h x2 1 0).bind fun x3 => some x3) else if v2 = (1 : Int32) then ((rc h x2 1 (m_X0_versionsOfAll x2 h)).bind fun x4 => some x4) else if v2 = (2 : Int32) then ((gfR h v0 11 3).bind fun x5 => (rc h x5 3 (m_X2_size x5 x2 h)).bind fun x6 => some x6) else if v2 = (3 : Int32) then ((gfI h x2 1 1).bind fun x7 => some x7) else if v2 = (4 : Int32) then ((gfR h v0 11 3).bind fun x8 => (rc h x8 3 (m_X2_postings x8 x2 h)).bind fun x9 => some x9) else if v2 = (5 : Int32) then ((gfR h v0 11 3).bind fun x10 => (rc h x10 3 (m_X2_longestDocument x10 x2 h)).bind fun x11 => some x11) else if v2 = (6 : Int32) then ((gfR h v0 11 3).bind fun x12 => (rc h x12 3 (m_X2_twins x12 x2 h)).bind fun x13 => some x13) else if v2 = (7 : Int32) then ((gfI h x2 1 2).bind fun x14 => some x14) else (rc h v0 11 (m_X11_ofDocument v0 x2 v2 h)).bind fun x15 => some x15) else some (-2 : Int32)
set_option maxRecDepth 20000 in
theorem ok_X11_archive {r : Int32} {v0 : Nat} {v1 : Int32} {v2 : Int32} {h : Hp} (H : m_X11_archive v0 v1 v2 h = some r) : Ev M_X11_archive [aA v0, aI v1, aI v2] h (some (aI r), h) := by
  show Go M_X11_archive (some (aI r), h) 0 [some (aA v0), some (aI v1), some (aI v2), none] [] h
  unfold m_X11_archive at H
  refine go_aloadn dX11_archive_0 rfl ?_
  refine gm_getR fd_X11_10 dX11_archive_1 H (fun x1 H => ?_)
  refine go_iloadn dX11_archive_4 rfl ?_
  obtain ⟨c1, x2, ex2, H⟩ := gm_rc H
  refine go_callV (vs := [aI v1]) (stk := []) (o1 := (some (aA x2), h)) mk_X9_archiveAt sv_X11_archive_86 cl_X9 rfl dX11_archive_5 c1 rfl rfl (Nat.le_of_ble_eq_true rfl) (Nat.le_of_ble_eq_true rfl) (ok_X9_archiveAt ex2) (show Go M_X11_archive (some (aI r), h) 8 [some (aA v0), some (aI v1), some (aI v2), none] [aA x2] h from ?_)
  refine go_astoren (loc2 := [some (aA v0), some (aI v1), some (aI v2), some (aA x2)]) dX11_archive_8 rfl (by decide) rfl ?_
  refine go_aloadn dX11_archive_9 rfl ?_
  obtain ⟨c3, H⟩ := gm_nz H
  refine go_ifnonnull (tgt := 16) dX11_archive_10 (by decide) c3 (fun c2 => ?_) (fun c2 => ?_)
  · replace H := (gm_ite H).1 c2
    refine go_iloadn dX11_archive_16 rfl ?_
    by_cases c4 : v2 = (0 : Int32)
    · replace H := (gm_ite H).1 c4
      refine go_eqI c4 ?_
      refine go_tableIn (tgt := 64) dX11_archive_17 (by decide) (by decide) rfl (by decide) ?_
      refine go_aloadn dX11_archive_64 rfl ?_
      refine gm_getI fd_X11_90 dX11_archive_65 H (fun x3 H => ?_)
      obtain rfl := Option.some.inj H
      exact go_ireturn dX11_archive_68 (tyI_int rfl)
    · replace H := (gm_ite H).2 c4
      by_cases c5 : v2 = (1 : Int32)
      · replace H := (gm_ite H).1 c5
        refine go_eqI c5 ?_
        refine go_tableIn (tgt := 69) dX11_archive_17 (by decide) (by decide) rfl (by decide) ?_
        refine go_aloadn dX11_archive_69 rfl ?_
        obtain ⟨c6, x4, ex4, H⟩ := gm_rc H
        refine go_callV (vs := []) (stk := []) (o1 := (some (aI x4), h)) mk_X0_versionsOfAll sv_X11_archive_95 cl_X0 rfl dX11_archive_70 c6 rfl rfl (Nat.le_of_ble_eq_true rfl) (Nat.le_of_ble_eq_true rfl) (ok_X0_versionsOfAll ex4) (show Go M_X11_archive (some (aI r), h) 73 [some (aA v0), some (aI v1), some (aI v2), some (aA x2)] [aI x4] h from ?_)
        obtain rfl := Option.some.inj H
        exact go_ireturn dX11_archive_73 (tyI_int rfl)
      · replace H := (gm_ite H).2 c5
        by_cases c7 : v2 = (2 : Int32)
        · replace H := (gm_ite H).1 c7
          refine go_eqI c7 ?_
          refine go_tableIn (tgt := 74) dX11_archive_17 (by decide) (by decide) rfl (by decide) ?_
          refine go_aloadn dX11_archive_74 rfl ?_
          refine gm_getR fd_X11_30 dX11_archive_75 H (fun x5 H => ?_)
          refine go_aloadn dX11_archive_78 rfl ?_
          obtain ⟨c8, x6, ex6, H⟩ := gm_rc H
          refine go_callV (vs := [aA x2]) (stk := []) (o1 := (some (aI x6), h)) mk_X2_size sv_X11_archive_99 cl_X2 rfl dX11_archive_79 c8 rfl rfl (Nat.le_of_ble_eq_true rfl) (Nat.le_of_ble_eq_true rfl) (ok_X2_size ex6) (show Go M_X11_archive (some (aI r), h) 82 [some (aA v0), some (aI v1), some (aI v2), some (aA x2)] [aI x6] h from ?_)
          obtain rfl := Option.some.inj H
          exact go_ireturn dX11_archive_82 (tyI_int rfl)
        · replace H := (gm_ite H).2 c7
          by_cases c9 : v2 = (3 : Int32)
          · replace H := (gm_ite H).1 c9
            refine go_eqI c9 ?_
            refine go_tableIn (tgt := 83) dX11_archive_17 (by decide) (by decide) rfl (by decide) ?_
            refine go_aloadn dX11_archive_83 rfl ?_
            refine gm_getI fd_X11_103 dX11_archive_84 H (fun x7 H => ?_)
            obtain rfl := Option.some.inj H
            exact go_ireturn dX11_archive_87 (tyI_int rfl)
          · replace H := (gm_ite H).2 c9
            by_cases c10 : v2 = (4 : Int32)
            · replace H := (gm_ite H).1 c10
              refine go_eqI c10 ?_
              refine go_tableIn (tgt := 88) dX11_archive_17 (by decide) (by decide) rfl (by decide) ?_
              refine go_aloadn dX11_archive_88 rfl ?_
              refine gm_getR fd_X11_30 dX11_archive_89 H (fun x8 H => ?_)
              refine go_aloadn dX11_archive_92 rfl ?_
              obtain ⟨c11, x9, ex9, H⟩ := gm_rc H
              refine go_callV (vs := [aA x2]) (stk := []) (o1 := (some (aI x9), h)) mk_X2_postings sv_X11_archive_106 cl_X2 rfl dX11_archive_93 c11 rfl rfl (Nat.le_of_ble_eq_true rfl) (Nat.le_of_ble_eq_true rfl) (ok_X2_postings ex9) (show Go M_X11_archive (some (aI r), h) 96 [some (aA v0), some (aI v1), some (aI v2), some (aA x2)] [aI x9] h from ?_)
              obtain rfl := Option.some.inj H
              exact go_ireturn dX11_archive_96 (tyI_int rfl)
            · replace H := (gm_ite H).2 c10
              by_cases c12 : v2 = (5 : Int32)
              · replace H := (gm_ite H).1 c12
                refine go_eqI c12 ?_
                refine go_tableIn (tgt := 97) dX11_archive_17 (by decide) (by decide) rfl (by decide) ?_
                refine go_aloadn dX11_archive_97 rfl ?_
                refine gm_getR fd_X11_30 dX11_archive_98 H (fun x10 H => ?_)
                refine go_aloadn dX11_archive_101 rfl ?_
                obtain ⟨c13, x11, ex11, H⟩ := gm_rc H
                refine go_callV (vs := [aA x2]) (stk := []) (o1 := (some (aI x11), h)) mk_X2_longestDocument sv_X11_archive_109 cl_X2 rfl dX11_archive_102 c13 rfl rfl (Nat.le_of_ble_eq_true rfl) (Nat.le_of_ble_eq_true rfl) (ok_X2_longestDocument ex11) (show Go M_X11_archive (some (aI r), h) 105 [some (aA v0), some (aI v1), some (aI v2), some (aA x2)] [aI x11] h from ?_)
                obtain rfl := Option.some.inj H
                exact go_ireturn dX11_archive_105 (tyI_int rfl)
              · replace H := (gm_ite H).2 c12
                by_cases c14 : v2 = (6 : Int32)
                · replace H := (gm_ite H).1 c14
                  refine go_eqI c14 ?_
                  refine go_tableIn (tgt := 106) dX11_archive_17 (by decide) (by decide) rfl (by decide) ?_
                  refine go_aloadn dX11_archive_106 rfl ?_
                  refine gm_getR fd_X11_30 dX11_archive_107 H (fun x12 H => ?_)
                  refine go_aloadn dX11_archive_110 rfl ?_
                  obtain ⟨c15, x13, ex13, H⟩ := gm_rc H
                  refine go_callV (vs := [aA x2]) (stk := []) (o1 := (some (aI x13), h)) mk_X2_twins sv_X11_archive_112 cl_X2 rfl dX11_archive_111 c15 rfl rfl (Nat.le_of_ble_eq_true rfl) (Nat.le_of_ble_eq_true rfl) (ok_X2_twins ex13) (show Go M_X11_archive (some (aI r), h) 114 [some (aA v0), some (aI v1), some (aI v2), some (aA x2)] [aI x13] h from ?_)
                  obtain rfl := Option.some.inj H
                  exact go_ireturn dX11_archive_114 (tyI_int rfl)
                · replace H := (gm_ite H).2 c14
                  by_cases c16 : v2 = (7 : Int32)
                  · replace H := (gm_ite H).1 c16
                    refine go_eqI c16 ?_
                    refine go_tableIn (tgt := 115) dX11_archive_17 (by decide) (by decide) rfl (by decide) ?_
                    refine go_aloadn dX11_archive_115 rfl ?_
                    refine gm_getI fd_X11_115 dX11_archive_116 H (fun x14 H => ?_)
                    obtain rfl := Option.some.inj H
                    exact go_ireturn dX11_archive_119 (tyI_int rfl)
                  · replace H := (gm_ite H).2 c16
                    refine go_tableOut (tgt := 120) dX11_archive_17 (sw_out (fun i h1 h2 e => ?_)) (by decide) ?_
                    · have h3 : i = 0 ∨ i = 1 ∨ i = 2 ∨ i = 3 ∨ i = 4 ∨ i = 5 ∨ i = 6 ∨ i = 7 := by omega
                      rcases h3 with rfl | rfl | rfl | rfl | rfl | rfl | rfl | rfl
                      · exact sw_ne c4 (by decide) e
                      · exact sw_ne c5 (by decide) e
                      · exact sw_ne c7 (by decide) e
                      · exact sw_ne c9 (by decide) e
                      · exact sw_ne c10 (by decide) e
                      · exact sw_ne c12 (by decide) e
                      · exact sw_ne c14 (by decide) e
                      · exact sw_ne c16 (by decide) e
                    · skip
                      refine go_aloadn dX11_archive_120 rfl ?_
                      refine go_aloadn dX11_archive_121 rfl ?_
                      refine go_iloadn dX11_archive_122 rfl ?_
                      obtain ⟨c17, x15, ex15, H⟩ := gm_rc H
                      refine go_callV (vs := [aA x2, aI v2]) (stk := []) (o1 := (some (aI x15), h)) mk_X11_ofDocument sv_X11_archive_118 cl_X11 rfl dX11_archive_123 c17 rfl rfl (Nat.le_of_ble_eq_true rfl) (Nat.le_of_ble_eq_true rfl) (ok_X11_ofDocument ex15) (show Go M_X11_archive (some (aI r), h) 126 [some (aA v0), some (aI v1), some (aI v2), some (aA x2)] [aI x15] h from ?_)
                      obtain rfl := Option.some.inj H
                      exact go_ireturn dX11_archive_126 (tyI_int rfl)
  · replace H := (gm_ite H).2 (fun q => q c2)
    refine go_bipush (v := (-2 : Int32)) dX11_archive_13 rfl ?_
    obtain rfl := Option.some.inj H
    exact go_ireturn dX11_archive_15 (tyI_int rfl)
/-! X12_hand -/
def b_X12_hand_13 (v0 : Nat) (v1 : Int32) (K44 : Hp → Option (Int32 × Hp)) (k : Int32 → Hp → Option (Int32 × Hp)) (v2 : Int32) (h : Hp) : Option (Int32 × Hp) :=
  if (1526 : Int32) ≤ v2 then K44 h else (gfR h v0 12 18).bind fun x1 => (gfR h v0 12 6).bind fun x2 => (alI h x2 (((1526 : Int32) * v1) + v2)).bind fun x3 => (asI h x1 v2 x3).bind fun hh1 => k (v2 + (1 : Int32)) hh1
set_option maxRecDepth 20000 in
theorem okb_X12_hand_13 {r : (Int32 × Hp)} (v0 : Nat) (v1 : Int32) (K44 : Hp → Option (Int32 × Hp)) (k : Int32 → Hp → Option (Int32 × Hp)) (v2 : Int32) (h : Hp) (HK44 : ∀   (hq : Hp), K44 hq = some r → Go M_X12_hand (some (aI r.1), r.2) 44 [some (aA v0), none, none] [] hq) (Hk : ∀ (v2q : Int32) (hq : Hp), k v2q hq = some r → Go M_X12_hand (some (aI r.1), r.2) 13 [some (aA v0), some (aI v1), some (aI v2q)] [] hq) (H : b_X12_hand_13 v0 v1 K44 k v2 h = some r) : Go M_X12_hand (some (aI r.1), r.2) 13 [some (aA v0), some (aI v1), some (aI v2)] [] h := by
  unfold b_X12_hand_13 at H
  refine go_iloadn dX12_hand_13 rfl ?_
  refine go_sipush (v := (1526 : Int32)) dX12_hand_14 rfl ?_
  refine go_icmp_ge (tgt := 44) dX12_hand_17 (by decide) (fun c1 => ?_) (fun c1 => ?_)
  · replace H := (gm_ite H).1 c1
    refine go_mask [true, false, false] (loc' := [some (aA v0), none, none]) rfl ?_
    exact HK44 h H
  · replace H := (gm_ite H).2 c1
    refine go_aloadn dX12_hand_20 rfl ?_
    refine gm_getR fd_X12_35 dX12_hand_21 H (fun x1 H => ?_)
    refine go_iloadn dX12_hand_24 rfl ?_
    refine go_aloadn dX12_hand_25 rfl ?_
    refine gm_getR fd_X12_26 dX12_hand_26 H (fun x2 H => ?_)
    refine go_sipush (v := (1526 : Int32)) dX12_hand_29 rfl ?_
    refine go_iloadn dX12_hand_32 rfl ?_
    refine go_imul dX12_hand_33 ?_
    refine go_iloadn dX12_hand_34 rfl ?_
    refine go_iadd dX12_hand_35 ?_
    refine gm_iald dX12_hand_36 H (fun x3 H => ?_)
    refine gm_iast dX12_hand_37 H (fun hh1 H => ?_)
    refine go_iinc (v := (v2 + (1 : Int32))) (loc2 := [some (aA v0), some (aI v1), some (aI (v2 + (1 : Int32)))]) dX12_hand_38 rfl rfl (by decide) rfl ?_
    refine go_goto (tgt := 13) dX12_hand_41 (by decide) ?_
    exact Hk (v2 + (1 : Int32)) hh1 H
def l_X12_hand_13 (v0 : Nat) (v1 : Int32) (K44 : Hp → Option (Int32 × Hp)) (v2 : Int32) (h : Hp) : Option (Int32 × Hp) := loopK FUEL (fun (k : Int32 × Hp → Option (Int32 × Hp)) (s : Int32 × Hp) => b_X12_hand_13 v0 v1 K44 (fun v2q hq => k (v2q, hq)) s.1 s.2) (v2, h)
theorem okl_X12_hand_13 {r : (Int32 × Hp)} (v0 : Nat) (v1 : Int32) (K44 : Hp → Option (Int32 × Hp)) (v2 : Int32) (h : Hp) (HK44 : ∀   (hq : Hp), K44 hq = some r → Go M_X12_hand (some (aI r.1), r.2) 44 [some (aA v0), none, none] [] hq) (H : l_X12_hand_13 v0 v1 K44 v2 h = some r) : Go M_X12_hand (some (aI r.1), r.2) 13 [some (aA v0), some (aI v1), some (aI v2)] [] h := by
  unfold l_X12_hand_13 at H
  exact go_loop (σ := Int32 × Hp) (body := (fun (k : Int32 × Hp → Option (Int32 × Hp)) (s : Int32 × Hp) => b_X12_hand_13 v0 v1 K44 (fun v2q hq => k (v2q, hq)) s.1 s.2)) (fun s => [some (aA v0), some (aI v1), some (aI s.1)]) (fun s => s.2) (fun k s Hk H => okb_X12_hand_13 v0 v1 K44 (fun v2q hq => k (v2q, hq)) s.1 s.2 HK44 (fun v2q hq H => Hk (v2q, hq) H) H) FUEL (v2, h) H
def j_X12_hand_44 (v0 : Nat)  (h : Hp) : Option (Int32 × Hp) :=
  (gfR h v0 12 18).bind fun x1 => (alI h x1 (5 : Int32)).bind fun x2 => (pfI h v0 12 24 x2).bind fun hh1 => some ((1 : Int32), hh1)
set_option maxRecDepth 20000 in
theorem okj_X12_hand_44 {r : (Int32 × Hp)} (v0 : Nat)  (h : Hp) (H : j_X12_hand_44 v0 h = some r) : Go M_X12_hand (some (aI r.1), r.2) 44 [some (aA v0), none, none] [] h := by
  unfold j_X12_hand_44 at H
  refine go_aloadn dX12_hand_44 rfl ?_
  refine go_aloadn dX12_hand_45 rfl ?_
  refine gm_getR fd_X12_35 dX12_hand_46 H (fun x1 H => ?_)
  refine go_iconst (v := (5 : Int32)) dX12_hand_49 rfl ?_
  refine gm_iald dX12_hand_50 H (fun x2 H => ?_)
  refine gm_putI fd_X12_253 (Or.inl rfl) dX12_hand_51 H (fun hh1 H => ?_)
  refine go_iconst (v := (1 : Int32)) dX12_hand_54 rfl ?_
  obtain rfl := Option.some.inj H
  exact go_ireturn (x := (1 : Int32)) dX12_hand_55 (tyI_bool rfl (by decide))
def m_X12_hand (v0 : Nat) (v1 : Int32) (h : Hp) : Option (Int32 × Hp) :=
  (rc h v0 12 (m_X12_is v0 (0 : Int32) v1 h)).bind fun x1 => if ¬ x1 = 0 then (l_X12_hand_13 v0 v1 (fun hz2 => j_X12_hand_44 v0 hz2) (0 : Int32) h) else some ((0 : Int32), h)
set_option maxRecDepth 20000 in
theorem ok_X12_hand {r : (Int32 × Hp)} {v0 : Nat} {v1 : Int32} {h : Hp} (H : m_X12_hand v0 v1 h = some r) : Ev M_X12_hand [aA v0, aI v1] h (some (aI r.1), r.2) := by
  show Go M_X12_hand (some (aI r.1), r.2) 0 [some (aA v0), some (aI v1), none] [] h
  unfold m_X12_hand at H
  refine go_aloadn dX12_hand_0 rfl ?_
  refine go_iconst (v := (0 : Int32)) dX12_hand_1 rfl ?_
  refine go_iloadn dX12_hand_2 rfl ?_
  obtain ⟨c1, x1, ex1, H⟩ := gm_rc H
  refine go_callV (vs := [aI (0 : Int32), aI v1]) (stk := []) (o1 := (some (aI x1), h)) mk_X12_is sv_X12_hand_243 cl_X12 rfl dX12_hand_3 c1 rfl rfl (Nat.le_of_ble_eq_true rfl) (Nat.le_of_ble_eq_true rfl) (ok_X12_is ex1) (show Go M_X12_hand (some (aI r.1), r.2) 6 [some (aA v0), some (aI v1), none] [aI x1] h from ?_)
  refine go_if_ne (tgt := 11) dX12_hand_6 (by decide) (fun c2 => ?_) (fun c2 => ?_)
  · replace H := (gm_ite H).1 c2
    refine go_iconst (v := (0 : Int32)) dX12_hand_11 rfl ?_
    refine go_istoren (loc2 := [some (aA v0), some (aI v1), some (aI (0 : Int32))]) dX12_hand_12 rfl (by decide) rfl ?_
    refine okl_X12_hand_13 v0 v1 (fun hz2 => j_X12_hand_44 v0 hz2) (0 : Int32) h ?_ H
    · intro hz2 H
      exact okj_X12_hand_44 v0 hz2  H
  · replace H := (gm_ite H).2 c2
    refine go_iconst (v := (0 : Int32)) dX12_hand_9 rfl ?_
    obtain rfl := Option.some.inj H
    exact go_ireturn (x := (0 : Int32)) dX12_hand_10 (tyI_bool rfl (by decide))
/-! X12_isDoc -/
def m_X12_isDoc (v0 : Nat) (v1 : Int32) (h : Hp) : Option Int32 :=
  (gfR h v0 12 18).bind fun x1 => (alI h x1 (0 : Int32)).bind fun x2 => (m_X12_in v1 (0 : Int32) (x2 - (1 : Int32)) h).bind fun x3 => (zb x3).bind fun x4 => some x4
set_option maxRecDepth 20000 in
theorem ok_X12_isDoc {r : Int32} {v0 : Nat} {v1 : Int32} {h : Hp} (H : m_X12_isDoc v0 v1 h = some r) : Ev M_X12_isDoc [aA v0, aI v1] h (some (aI r), h) := by
  show Go M_X12_isDoc (some (aI r), h) 0 [some (aA v0), some (aI v1)] [] h
  unfold m_X12_isDoc at H
  refine go_iloadn dX12_isDoc_0 rfl ?_
  refine go_iconst (v := (0 : Int32)) dX12_isDoc_1 rfl ?_
  refine go_aloadn dX12_isDoc_2 rfl ?_
  refine gm_getR fd_X12_35 dX12_isDoc_3 H (fun x1 H => ?_)
  refine go_iconst (v := (0 : Int32)) dX12_isDoc_6 rfl ?_
  refine gm_iald dX12_isDoc_7 H (fun x2 H => ?_)
  refine go_iconst (v := (1 : Int32)) dX12_isDoc_8 rfl ?_
  refine go_isub dX12_isDoc_9 ?_
  obtain ⟨x3, ex3, H⟩ := bind_some H
  refine go_callS (vs := [aI v1, aI (0 : Int32), aI (x2 - (1 : Int32))]) (stk := []) (o1 := (some (aI x3), h)) mk_X12_in ss_X12_isDoc_72 dX12_isDoc_10 rfl rfl (Nat.le_of_ble_eq_true rfl) (Nat.le_of_ble_eq_true rfl) (ok_X12_in ex3) (show Go M_X12_isDoc (some (aI r), h) 13 [some (aA v0), some (aI v1)] [aI x3] h from ?_)
  obtain ⟨hz, H⟩ := gm_zb H
  obtain rfl := Option.some.inj H
  exact go_ireturn (x := x3) dX12_isDoc_13 (tyI_bool rfl hz)
/-! X12_versions -/
def m_X12_versions (v0 : Nat) (v1 : Int32) (h : Hp) : Option Int32 :=
  (gfR h v0 12 18).bind fun x1 => (alI h x1 ((1 : Int32) + v1)).bind fun x2 => some x2
set_option maxRecDepth 20000 in
theorem ok_X12_versions {r : Int32} {v0 : Nat} {v1 : Int32} {h : Hp} (H : m_X12_versions v0 v1 h = some r) : Ev M_X12_versions [aA v0, aI v1] h (some (aI r), h) := by
  show Go M_X12_versions (some (aI r), h) 0 [some (aA v0), some (aI v1)] [] h
  unfold m_X12_versions at H
  refine go_aloadn dX12_versions_0 rfl ?_
  refine gm_getR fd_X12_35 dX12_versions_1 H (fun x1 H => ?_)
  refine go_iconst (v := (1 : Int32)) dX12_versions_4 rfl ?_
  refine go_iloadn dX12_versions_5 rfl ?_
  refine go_iadd dX12_versions_6 ?_
  refine gm_iald dX12_versions_7 H (fun x2 H => ?_)
  obtain rfl := Option.some.inj H
  exact go_ireturn dX12_versions_8 (tyI_int rfl)
/-! X12_longOf -/
def m_X12_longOf (v0 : Nat) (v1 : Int32) (v2 : Int32) (h : Hp) : Option Int32 :=
  (gfR h v0 12 18).bind fun x1 => (m_X12_at v1 v2 h).bind fun x2 => (alI h x1 ((46 : Int32) + x2)).bind fun x3 => some x3
set_option maxRecDepth 20000 in
theorem ok_X12_longOf {r : Int32} {v0 : Nat} {v1 : Int32} {v2 : Int32} {h : Hp} (H : m_X12_longOf v0 v1 v2 h = some r) : Ev M_X12_longOf [aA v0, aI v1, aI v2] h (some (aI r), h) := by
  show Go M_X12_longOf (some (aI r), h) 0 [some (aA v0), some (aI v1), some (aI v2)] [] h
  unfold m_X12_longOf at H
  refine go_aloadn dX12_longOf_0 rfl ?_
  refine gm_getR fd_X12_35 dX12_longOf_1 H (fun x1 H => ?_)
  refine go_bipush (v := (46 : Int32)) dX12_longOf_4 rfl ?_
  refine go_iloadn dX12_longOf_6 rfl ?_
  refine go_iloadn dX12_longOf_7 rfl ?_
  obtain ⟨x2, ex2, H⟩ := bind_some H
  refine go_callS (vs := [aI v1, aI v2]) (stk := [aI (46 : Int32), aA x1]) (o1 := (some (aI x2), h)) mk_X12_at ss_X12_longOf_146 dX12_longOf_8 rfl rfl (Nat.le_of_ble_eq_true rfl) (Nat.le_of_ble_eq_true rfl) (ok_X12_at ex2) (show Go M_X12_longOf (some (aI r), h) 11 [some (aA v0), some (aI v1), some (aI v2)] [aI x2, aI (46 : Int32), aA x1] h from ?_)
  refine go_iadd dX12_longOf_11 ?_
  refine gm_iald dX12_longOf_12 H (fun x3 H => ?_)
  obtain rfl := Option.some.inj H
  exact go_ireturn dX12_longOf_13 (tyI_int rfl)
/-! X12_tokenAt -/
def m_X12_tokenAt (v0 : Nat) (v1 : Int32) (v2 : Int32) (v3 : Int32) (h : Hp) : Option Int32 :=
  (gfR h v0 12 18).bind fun x1 => (m_X12_at v1 v2 h).bind fun x2 => (alI h x1 (((86 : Int32) + ((20 : Int32) * x2)) + v3)).bind fun x3 => some x3
set_option maxRecDepth 20000 in
theorem ok_X12_tokenAt {r : Int32} {v0 : Nat} {v1 : Int32} {v2 : Int32} {v3 : Int32} {h : Hp} (H : m_X12_tokenAt v0 v1 v2 v3 h = some r) : Ev M_X12_tokenAt [aA v0, aI v1, aI v2, aI v3] h (some (aI r), h) := by
  show Go M_X12_tokenAt (some (aI r), h) 0 [some (aA v0), some (aI v1), some (aI v2), some (aI v3)] [] h
  unfold m_X12_tokenAt at H
  refine go_aloadn dX12_tokenAt_0 rfl ?_
  refine gm_getR fd_X12_35 dX12_tokenAt_1 H (fun x1 H => ?_)
  refine go_bipush (v := (86 : Int32)) dX12_tokenAt_4 rfl ?_
  refine go_bipush (v := (20 : Int32)) dX12_tokenAt_6 rfl ?_
  refine go_iloadn dX12_tokenAt_8 rfl ?_
  refine go_iloadn dX12_tokenAt_9 rfl ?_
  obtain ⟨x2, ex2, H⟩ := bind_some H
  refine go_callS (vs := [aI v1, aI v2]) (stk := [aI (20 : Int32), aI (86 : Int32), aA x1]) (o1 := (some (aI x2), h)) mk_X12_at ss_X12_tokenAt_146 dX12_tokenAt_10 rfl rfl (Nat.le_of_ble_eq_true rfl) (Nat.le_of_ble_eq_true rfl) (ok_X12_at ex2) (show Go M_X12_tokenAt (some (aI r), h) 13 [some (aA v0), some (aI v1), some (aI v2), some (aI v3)] [aI x2, aI (20 : Int32), aI (86 : Int32), aA x1] h from ?_)
  refine go_imul dX12_tokenAt_13 ?_
  refine go_iadd dX12_tokenAt_14 ?_
  refine go_iloadn dX12_tokenAt_15 rfl ?_
  refine go_iadd dX12_tokenAt_16 ?_
  refine gm_iald dX12_tokenAt_17 H (fun x3 H => ?_)
  obtain rfl := Option.some.inj H
  exact go_ireturn dX12_tokenAt_18 (tyI_int rfl)
/-! X12_placeOf -/
def j_X12_placeOf_36 (v0 : Nat) (v1 : Int32) (v2 : Int32) (v3 : Int32) (v5 : Int32) (s0 : Int32) (h : Hp) (k : Int32 → Int32 → Option Int32) : Option Int32 :=
  k s0 (v5 + (1 : Int32))
set_option maxRecDepth 20000 in
theorem okj_X12_placeOf_36 {r : Int32} (v0 : Nat) (v1 : Int32) (v2 : Int32) (v3 : Int32) (v5 : Int32) (s0 : Int32) (h : Hp) (k : Int32 → Int32 → Option Int32) (Hk : ∀ (v4q : Int32) (v5q : Int32), k v4q v5q = some r → Go M_X12_placeOf (some (aI r), h) 6 [some (aA v0), some (aI v1), some (aI v2), some (aI v3), some (aI v4q), some (aI v5q)] [] h) (H : j_X12_placeOf_36 v0 v1 v2 v3 v5 s0 h k = some r) : Go M_X12_placeOf (some (aI r), h) 36 [some (aA v0), some (aI v1), some (aI v2), some (aI v3), none, some (aI v5)] [aI s0] h := by
  unfold j_X12_placeOf_36 at H
  refine go_istore (loc2 := [some (aA v0), some (aI v1), some (aI v2), some (aI v3), some (aI s0), some (aI v5)]) dX12_placeOf_36 (by decide) rfl ?_
  refine go_iinc (v := (v5 + (1 : Int32))) (loc2 := [some (aA v0), some (aI v1), some (aI v2), some (aI v3), some (aI s0), some (aI (v5 + (1 : Int32)))]) dX12_placeOf_38 rfl rfl (by decide) rfl ?_
  refine go_goto (tgt := 6) dX12_placeOf_41 (by decide) ?_
  exact Hk s0 (v5 + (1 : Int32)) H
def b_X12_placeOf_6 (v0 : Nat) (v1 : Int32) (v2 : Int32) (v3 : Int32) (h : Hp) (k : Int32 → Int32 → Option Int32) (v4 : Int32) (v5 : Int32) : Option Int32 :=
  (rc h v0 12 (m_X12_longOf v0 v1 v2 h)).bind fun x1 => if x1 ≤ v5 then (some v4) else (rc h v0 12 (m_X12_tokenAt v0 v1 v2 v5 h)).bind fun x2 => j_X12_placeOf_36 v0 v1 v2 v3 v5 (if ¬ x2 = v3 then v4 else v5) h k
set_option maxRecDepth 20000 in
theorem okb_X12_placeOf_6 {r : Int32} (v0 : Nat) (v1 : Int32) (v2 : Int32) (v3 : Int32) (h : Hp) (k : Int32 → Int32 → Option Int32) (v4 : Int32) (v5 : Int32) (Hk : ∀ (v4q : Int32) (v5q : Int32), k v4q v5q = some r → Go M_X12_placeOf (some (aI r), h) 6 [some (aA v0), some (aI v1), some (aI v2), some (aI v3), some (aI v4q), some (aI v5q)] [] h) (H : b_X12_placeOf_6 v0 v1 v2 v3 h k v4 v5 = some r) : Go M_X12_placeOf (some (aI r), h) 6 [some (aA v0), some (aI v1), some (aI v2), some (aI v3), some (aI v4), some (aI v5)] [] h := by
  unfold b_X12_placeOf_6 at H
  refine go_iload dX12_placeOf_6 rfl ?_
  refine go_aloadn dX12_placeOf_8 rfl ?_
  refine go_iloadn dX12_placeOf_9 rfl ?_
  refine go_iloadn dX12_placeOf_10 rfl ?_
  obtain ⟨c1, x1, ex1, H⟩ := gm_rc H
  refine go_callV (vs := [aI v1, aI v2]) (stk := [aI v5]) (o1 := (some (aI x1), h)) mk_X12_longOf sv_X12_placeOf_269 cl_X12 rfl dX12_placeOf_11 c1 rfl rfl (Nat.le_of_ble_eq_true rfl) (Nat.le_of_ble_eq_true rfl) (ok_X12_longOf ex1) (show Go M_X12_placeOf (some (aI r), h) 14 [some (aA v0), some (aI v1), some (aI v2), some (aI v3), some (aI v4), some (aI v5)] [aI x1, aI v5] h from ?_)
  refine go_icmp_ge (tgt := 44) dX12_placeOf_14 (by decide) (fun c2 => ?_) (fun c2 => ?_)
  · replace H := (gm_ite H).1 c2
    refine go_iload dX12_placeOf_44 rfl ?_
    obtain rfl := Option.some.inj H
    exact go_ireturn dX12_placeOf_46 (tyI_int rfl)
  · replace H := (gm_ite H).2 c2
    refine go_aloadn dX12_placeOf_17 rfl ?_
    refine go_iloadn dX12_placeOf_18 rfl ?_
    refine go_iloadn dX12_placeOf_19 rfl ?_
    refine go_iload dX12_placeOf_20 rfl ?_
    obtain ⟨c3, x2, ex2, H⟩ := gm_rc H
    refine go_callV (vs := [aI v1, aI v2, aI v5]) (stk := []) (o1 := (some (aI x2), h)) mk_X12_tokenAt sv_X12_placeOf_262 cl_X12 rfl dX12_placeOf_22 c3 rfl rfl (Nat.le_of_ble_eq_true rfl) (Nat.le_of_ble_eq_true rfl) (ok_X12_tokenAt ex2) (show Go M_X12_placeOf (some (aI r), h) 25 [some (aA v0), some (aI v1), some (aI v2), some (aI v3), some (aI v4), some (aI v5)] [aI x2] h from ?_)
    refine go_iloadn dX12_placeOf_25 rfl ?_
    refine go_icmp_ne (tgt := 34) dX12_placeOf_26 (by decide) (fun c4 => ?_) (fun c4 => ?_)
    · rw [if_pos c4] at H
      refine go_iload dX12_placeOf_34 rfl ?_
      refine go_mask [true, true, true, true, false, true] (loc' := [some (aA v0), some (aI v1), some (aI v2), some (aI v3), none, some (aI v5)]) rfl ?_
      exact okj_X12_placeOf_36 v0 v1 v2 v3 v5 v4 h k Hk H
    · rw [if_neg c4] at H
      refine go_iload dX12_placeOf_29 rfl ?_
      refine go_goto (tgt := 36) dX12_placeOf_31 (by decide) ?_
      refine go_mask [true, true, true, true, false, true] (loc' := [some (aA v0), some (aI v1), some (aI v2), some (aI v3), none, some (aI v5)]) rfl ?_
      exact okj_X12_placeOf_36 v0 v1 v2 v3 v5 v5 h k Hk H
def l_X12_placeOf_6 (v0 : Nat) (v1 : Int32) (v2 : Int32) (v3 : Int32) (h : Hp) (v4 : Int32) (v5 : Int32) : Option Int32 := loopK FUEL (fun (k : Int32 × Int32 → Option Int32) (s : Int32 × Int32) => b_X12_placeOf_6 v0 v1 v2 v3 h (fun v4q v5q => k (v4q, v5q)) s.1 s.2) (v4, v5)
theorem okl_X12_placeOf_6 {r : Int32} (v0 : Nat) (v1 : Int32) (v2 : Int32) (v3 : Int32) (h : Hp) (v4 : Int32) (v5 : Int32) (H : l_X12_placeOf_6 v0 v1 v2 v3 h v4 v5 = some r) : Go M_X12_placeOf (some (aI r), h) 6 [some (aA v0), some (aI v1), some (aI v2), some (aI v3), some (aI v4), some (aI v5)] [] h := by
  unfold l_X12_placeOf_6 at H
  exact go_loop (σ := Int32 × Int32) (body := (fun (k : Int32 × Int32 → Option Int32) (s : Int32 × Int32) => b_X12_placeOf_6 v0 v1 v2 v3 h (fun v4q v5q => k (v4q, v5q)) s.1 s.2)) (fun s => [some (aA v0), some (aI v1), some (aI v2), some (aI v3), some (aI s.1), some (aI s.2)]) (fun s => h) (fun k s Hk H => okb_X12_placeOf_6 v0 v1 v2 v3 h (fun v4q v5q => k (v4q, v5q)) s.1 s.2  (fun v4q v5q H => Hk (v4q, v5q) H) H) FUEL (v4, v5) H
def m_X12_placeOf (v0 : Nat) (v1 : Int32) (v2 : Int32) (v3 : Int32) (h : Hp) : Option Int32 :=
  l_X12_placeOf_6 v0 v1 v2 v3 h (-1 : Int32) (0 : Int32)
set_option maxRecDepth 20000 in
theorem ok_X12_placeOf {r : Int32} {v0 : Nat} {v1 : Int32} {v2 : Int32} {v3 : Int32} {h : Hp} (H : m_X12_placeOf v0 v1 v2 v3 h = some r) : Ev M_X12_placeOf [aA v0, aI v1, aI v2, aI v3] h (some (aI r), h) := by
  show Go M_X12_placeOf (some (aI r), h) 0 [some (aA v0), some (aI v1), some (aI v2), some (aI v3), none, none] [] h
  unfold m_X12_placeOf at H
  refine go_iconst (v := (-1 : Int32)) dX12_placeOf_0 rfl ?_
  refine go_istore (loc2 := [some (aA v0), some (aI v1), some (aI v2), some (aI v3), some (aI (-1 : Int32)), none]) dX12_placeOf_1 (by decide) rfl ?_
  refine go_iconst (v := (0 : Int32)) dX12_placeOf_3 rfl ?_
  refine go_istore (loc2 := [some (aA v0), some (aI v1), some (aI v2), some (aI v3), some (aI (-1 : Int32)), some (aI (0 : Int32))]) dX12_placeOf_4 (by decide) rfl ?_
  exact okl_X12_placeOf_6 v0 v1 v2 v3 h (-1 : Int32) (0 : Int32) H
/-! X12_whereIs -/
def j_X12_whereIs_47 (v0 : Nat) (v1 : Int32) (v2 : Int32) (v4 : Int32) (s0 : Int32) (s1 : Int32) (h : Hp) (k : Int32 → Int32 → Option Int32) : Option Int32 :=
  k (s0 ||| s1) (v4 + (1 : Int32))
set_option maxRecDepth 20000 in
theorem okj_X12_whereIs_47 {r : Int32} (v0 : Nat) (v1 : Int32) (v2 : Int32) (v4 : Int32) (s0 : Int32) (s1 : Int32) (h : Hp) (k : Int32 → Int32 → Option Int32) (Hk : ∀ (v3q : Int32) (v4q : Int32), k v3q v4q = some r → Go M_X12_whereIs (some (aI r), h) 16 [some (aA v0), some (aI v1), some (aI v2), some (aI v3q), some (aI v4q)] [] h) (H : j_X12_whereIs_47 v0 v1 v2 v4 s0 s1 h k = some r) : Go M_X12_whereIs (some (aI r), h) 47 [some (aA v0), some (aI v1), some (aI v2), none, some (aI v4)] [aI s1, aI s0] h := by
  unfold j_X12_whereIs_47 at H
  refine go_ior dX12_whereIs_47 ?_
  refine go_istoren (loc2 := [some (aA v0), some (aI v1), some (aI v2), some (aI (s0 ||| s1)), some (aI v4)]) dX12_whereIs_48 rfl (by decide) rfl ?_
  refine go_iinc (v := (v4 + (1 : Int32))) (loc2 := [some (aA v0), some (aI v1), some (aI v2), some (aI (s0 ||| s1)), some (aI (v4 + (1 : Int32)))]) dX12_whereIs_49 rfl rfl (by decide) rfl ?_
  refine go_goto (tgt := 16) dX12_whereIs_52 (by decide) ?_
  exact Hk (s0 ||| s1) (v4 + (1 : Int32)) H
def b_X12_whereIs_16 (v0 : Nat) (v1 : Int32) (v2 : Int32) (h : Hp) (k : Int32 → Int32 → Option Int32) (v3 : Int32) (v4 : Int32) : Option Int32 :=
  (rc h v0 12 (m_X12_versions v0 v2 h)).bind fun x1 => if x1 ≤ v4 then (some v3) else (rc h v0 12 (m_X12_placeOf v0 v2 v4 v1 h)).bind fun x2 => if ¬ x2 = (-1 : Int32) then (j_X12_whereIs_47 v0 v1 v2 v4 v3 (ishlF (1 : Int32) v4) h k) else j_X12_whereIs_47 v0 v1 v2 v4 v3 (0 : Int32) h k
set_option maxRecDepth 20000 in
theorem okb_X12_whereIs_16 {r : Int32} (v0 : Nat) (v1 : Int32) (v2 : Int32) (h : Hp) (k : Int32 → Int32 → Option Int32) (v3 : Int32) (v4 : Int32) (Hk : ∀ (v3q : Int32) (v4q : Int32), k v3q v4q = some r → Go M_X12_whereIs (some (aI r), h) 16 [some (aA v0), some (aI v1), some (aI v2), some (aI v3q), some (aI v4q)] [] h) (H : b_X12_whereIs_16 v0 v1 v2 h k v3 v4 = some r) : Go M_X12_whereIs (some (aI r), h) 16 [some (aA v0), some (aI v1), some (aI v2), some (aI v3), some (aI v4)] [] h := by
  unfold b_X12_whereIs_16 at H
  refine go_iload dX12_whereIs_16 rfl ?_
  refine go_aloadn dX12_whereIs_18 rfl ?_
  refine go_iloadn dX12_whereIs_19 rfl ?_
  obtain ⟨c1, x1, ex1, H⟩ := gm_rc H
  refine go_callV (vs := [aI v2]) (stk := [aI v4]) (o1 := (some (aI x1), h)) mk_X12_versions sv_X12_whereIs_259 cl_X12 rfl dX12_whereIs_20 c1 rfl rfl (Nat.le_of_ble_eq_true rfl) (Nat.le_of_ble_eq_true rfl) (ok_X12_versions ex1) (show Go M_X12_whereIs (some (aI r), h) 23 [some (aA v0), some (aI v1), some (aI v2), some (aI v3), some (aI v4)] [aI x1, aI v4] h from ?_)
  refine go_icmp_ge (tgt := 55) dX12_whereIs_23 (by decide) (fun c2 => ?_) (fun c2 => ?_)
  · replace H := (gm_ite H).1 c2
    refine go_iloadn dX12_whereIs_55 rfl ?_
    obtain rfl := Option.some.inj H
    exact go_ireturn dX12_whereIs_56 (tyI_int rfl)
  · replace H := (gm_ite H).2 c2
    refine go_iloadn dX12_whereIs_26 rfl ?_
    refine go_aloadn dX12_whereIs_27 rfl ?_
    refine go_iloadn dX12_whereIs_28 rfl ?_
    refine go_iload dX12_whereIs_29 rfl ?_
    refine go_iloadn dX12_whereIs_31 rfl ?_
    obtain ⟨c3, x2, ex2, H⟩ := gm_rc H
    refine go_callV (vs := [aI v2, aI v4, aI v1]) (stk := [aI v3]) (o1 := (some (aI x2), h)) mk_X12_placeOf sv_X12_whereIs_272 cl_X12 rfl dX12_whereIs_32 c3 rfl rfl (Nat.le_of_ble_eq_true rfl) (Nat.le_of_ble_eq_true rfl) (ok_X12_placeOf ex2) (show Go M_X12_whereIs (some (aI r), h) 35 [some (aA v0), some (aI v1), some (aI v2), some (aI v3), some (aI v4)] [aI x2, aI v3] h from ?_)
    refine go_iconst (v := (-1 : Int32)) dX12_whereIs_35 rfl ?_
    refine go_icmp_ne (tgt := 43) dX12_whereIs_36 (by decide) (fun c4 => ?_) (fun c4 => ?_)
    · replace H := (gm_ite H).1 c4
      refine go_iconst (v := (1 : Int32)) dX12_whereIs_43 rfl ?_
      refine go_iload dX12_whereIs_44 rfl ?_
      refine go_ishl dX12_whereIs_46 ?_
      refine go_mask [true, true, true, false, true] (loc' := [some (aA v0), some (aI v1), some (aI v2), none, some (aI v4)]) rfl ?_
      exact okj_X12_whereIs_47 v0 v1 v2 v4 v3 (ishlF (1 : Int32) v4) h k Hk H
    · replace H := (gm_ite H).2 c4
      refine go_iconst (v := (0 : Int32)) dX12_whereIs_39 rfl ?_
      refine go_goto (tgt := 47) dX12_whereIs_40 (by decide) ?_
      refine go_mask [true, true, true, false, true] (loc' := [some (aA v0), some (aI v1), some (aI v2), none, some (aI v4)]) rfl ?_
      exact okj_X12_whereIs_47 v0 v1 v2 v4 v3 (0 : Int32) h k Hk H
def l_X12_whereIs_16 (v0 : Nat) (v1 : Int32) (v2 : Int32) (h : Hp) (v3 : Int32) (v4 : Int32) : Option Int32 := loopK FUEL (fun (k : Int32 × Int32 → Option Int32) (s : Int32 × Int32) => b_X12_whereIs_16 v0 v1 v2 h (fun v3q v4q => k (v3q, v4q)) s.1 s.2) (v3, v4)
theorem okl_X12_whereIs_16 {r : Int32} (v0 : Nat) (v1 : Int32) (v2 : Int32) (h : Hp) (v3 : Int32) (v4 : Int32) (H : l_X12_whereIs_16 v0 v1 v2 h v3 v4 = some r) : Go M_X12_whereIs (some (aI r), h) 16 [some (aA v0), some (aI v1), some (aI v2), some (aI v3), some (aI v4)] [] h := by
  unfold l_X12_whereIs_16 at H
  exact go_loop (σ := Int32 × Int32) (body := (fun (k : Int32 × Int32 → Option Int32) (s : Int32 × Int32) => b_X12_whereIs_16 v0 v1 v2 h (fun v3q v4q => k (v3q, v4q)) s.1 s.2)) (fun s => [some (aA v0), some (aI v1), some (aI v2), some (aI s.1), some (aI s.2)]) (fun s => h) (fun k s Hk H => okb_X12_whereIs_16 v0 v1 v2 h (fun v3q v4q => k (v3q, v4q)) s.1 s.2  (fun v3q v4q H => Hk (v3q, v4q) H) H) FUEL (v3, v4) H
def m_X12_whereIs (v0 : Nat) (v1 : Int32) (h : Hp) : Option Int32 :=
  (gfR h v0 12 18).bind fun x1 => (alI h x1 ((1206 : Int32) + v1)).bind fun x2 => l_X12_whereIs_16 v0 v1 x2 h (0 : Int32) (0 : Int32)
set_option maxRecDepth 20000 in
theorem ok_X12_whereIs {r : Int32} {v0 : Nat} {v1 : Int32} {h : Hp} (H : m_X12_whereIs v0 v1 h = some r) : Ev M_X12_whereIs [aA v0, aI v1] h (some (aI r), h) := by
  show Go M_X12_whereIs (some (aI r), h) 0 [some (aA v0), some (aI v1), none, none, none] [] h
  unfold m_X12_whereIs at H
  refine go_aloadn dX12_whereIs_0 rfl ?_
  refine gm_getR fd_X12_35 dX12_whereIs_1 H (fun x1 H => ?_)
  refine go_sipush (v := (1206 : Int32)) dX12_whereIs_4 rfl ?_
  refine go_iloadn dX12_whereIs_7 rfl ?_
  refine go_iadd dX12_whereIs_8 ?_
  refine gm_iald dX12_whereIs_9 H (fun x2 H => ?_)
  refine go_istoren (loc2 := [some (aA v0), some (aI v1), some (aI x2), none, none]) dX12_whereIs_10 rfl (by decide) rfl ?_
  refine go_iconst (v := (0 : Int32)) dX12_whereIs_11 rfl ?_
  refine go_istoren (loc2 := [some (aA v0), some (aI v1), some (aI x2), some (aI (0 : Int32)), none]) dX12_whereIs_12 rfl (by decide) rfl ?_
  refine go_iconst (v := (0 : Int32)) dX12_whereIs_13 rfl ?_
  refine go_istore (loc2 := [some (aA v0), some (aI v1), some (aI x2), some (aI (0 : Int32)), some (aI (0 : Int32))]) dX12_whereIs_14 (by decide) rfl ?_
  exact okl_X12_whereIs_16 v0 v1 x2 h (0 : Int32) (0 : Int32) H
/-! X12_has -/
def j_X12_has_14  (s0 : Int32) (h : Hp) : Option Int32 :=
  (zb s0).bind fun x1 => some x1
set_option maxRecDepth 20000 in
theorem okj_X12_has_14 {r : Int32}  (s0 : Int32) (h : Hp) (H : j_X12_has_14 s0 h = some r) : Go M_X12_has (some (aI r), h) 14 [none, none] [aI s0] h := by
  unfold j_X12_has_14 at H
  obtain ⟨hz, H⟩ := gm_zb H
  obtain rfl := Option.some.inj H
  exact go_ireturn (x := s0) dX12_has_14 (tyI_bool rfl hz)
def m_X12_has (v0 : Int32) (v1 : Int32) (h : Hp) : Option Int32 :=
  j_X12_has_14 (if ¬ ((ishrF v0 v1) &&& (1 : Int32)) = (1 : Int32) then (0 : Int32) else (1 : Int32)) h
set_option maxRecDepth 20000 in
theorem ok_X12_has {r : Int32} {v0 : Int32} {v1 : Int32} {h : Hp} (H : m_X12_has v0 v1 h = some r) : Ev M_X12_has [aI v0, aI v1] h (some (aI r), h) := by
  show Go M_X12_has (some (aI r), h) 0 [some (aI v0), some (aI v1)] [] h
  unfold m_X12_has at H
  refine go_iloadn dX12_has_0 rfl ?_
  refine go_iloadn dX12_has_1 rfl ?_
  refine go_ishr dX12_has_2 ?_
  refine go_iconst (v := (1 : Int32)) dX12_has_3 rfl ?_
  refine go_iand dX12_has_4 ?_
  refine go_iconst (v := (1 : Int32)) dX12_has_5 rfl ?_
  refine go_icmp_ne (tgt := 13) dX12_has_6 (by decide) (fun c1 => ?_) (fun c1 => ?_)
  · rw [if_pos c1] at H
    refine go_iconst (v := (0 : Int32)) dX12_has_13 rfl ?_
    refine go_mask [false, false] (loc' := [none, none]) rfl ?_
    exact okj_X12_has_14 (0 : Int32) h  H
  · rw [if_neg c1] at H
    refine go_iconst (v := (1 : Int32)) dX12_has_9 rfl ?_
    refine go_goto (tgt := 14) dX12_has_10 (by decide) ?_
    refine go_mask [false, false] (loc' := [none, none]) rfl ?_
    exact okj_X12_has_14 (1 : Int32) h  H
/-! X12_behindOf -/
def j_X12_behindOf_122 (v0 : Nat) (v1 : Int32) (v2 : Int32) (v3 : Int32) (v5 : Int32) (s0 : Int32) (h : Hp) (K130 : Int32 → Option Int32) (k : Int32 → Int32 → Option Int32) : Option Int32 :=
  k s0 (v5 + (1 : Int32))
set_option maxRecDepth 20000 in
theorem okj_X12_behindOf_122 {r : Int32} (v0 : Nat) (v1 : Int32) (v2 : Int32) (v3 : Int32) (v5 : Int32) (s0 : Int32) (h : Hp) (K130 : Int32 → Option Int32) (k : Int32 → Int32 → Option Int32) (HK130 : ∀ (v4q : Int32) , K130 v4q = some r → Go M_X12_behindOf (some (aI r), h) 130 [some (aA v0), none, none, some (aI v3), some (aI v4q), none, none, none] [] h) (Hk : ∀ (v4q : Int32) (v5q : Int32), k v4q v5q = some r → Go M_X12_behindOf (some (aI r), h) 6 [some (aA v0), some (aI v1), some (aI v2), some (aI v3), some (aI v4q), some (aI v5q), none, none] [] h) (H : j_X12_behindOf_122 v0 v1 v2 v3 v5 s0 h K130 k = some r) : Go M_X12_behindOf (some (aI r), h) 122 [some (aA v0), some (aI v1), some (aI v2), some (aI v3), none, some (aI v5), none, none] [aI s0] h := by
  unfold j_X12_behindOf_122 at H
  refine go_istore (loc2 := [some (aA v0), some (aI v1), some (aI v2), some (aI v3), some (aI s0), some (aI v5), none, none]) dX12_behindOf_122 (by decide) rfl ?_
  refine go_iinc (v := (v5 + (1 : Int32))) (loc2 := [some (aA v0), some (aI v1), some (aI v2), some (aI v3), some (aI s0), some (aI (v5 + (1 : Int32))), none, none]) dX12_behindOf_124 rfl rfl (by decide) rfl ?_
  refine go_goto (tgt := 6) dX12_behindOf_127 (by decide) ?_
  exact Hk s0 (v5 + (1 : Int32)) H
def j_X12_behindOf_106 (v0 : Nat) (v1 : Int32) (v2 : Int32) (v3 : Int32) (v4 : Int32) (v5 : Int32) (v7 : Int32)  (h : Hp) (K130 : Int32 → Option Int32) (k : Int32 → Int32 → Option Int32) : Option Int32 :=
  (m_X12_has v3 v5 h).bind fun x1 => j_X12_behindOf_122 v0 v1 v2 v3 v5 (if x1 = 0 then v4 else v7) h K130 k
set_option maxRecDepth 20000 in
theorem okj_X12_behindOf_106 {r : Int32} (v0 : Nat) (v1 : Int32) (v2 : Int32) (v3 : Int32) (v4 : Int32) (v5 : Int32) (v7 : Int32)  (h : Hp) (K130 : Int32 → Option Int32) (k : Int32 → Int32 → Option Int32) (HK130 : ∀ (v4q : Int32) , K130 v4q = some r → Go M_X12_behindOf (some (aI r), h) 130 [some (aA v0), none, none, some (aI v3), some (aI v4q), none, none, none] [] h) (Hk : ∀ (v4q : Int32) (v5q : Int32), k v4q v5q = some r → Go M_X12_behindOf (some (aI r), h) 6 [some (aA v0), some (aI v1), some (aI v2), some (aI v3), some (aI v4q), some (aI v5q), none, none] [] h) (H : j_X12_behindOf_106 v0 v1 v2 v3 v4 v5 v7 h K130 k = some r) : Go M_X12_behindOf (some (aI r), h) 106 [some (aA v0), some (aI v1), some (aI v2), some (aI v3), some (aI v4), some (aI v5), none, some (aI v7)] [] h := by
  unfold j_X12_behindOf_106 at H
  refine go_iloadn dX12_behindOf_106 rfl ?_
  refine go_iload dX12_behindOf_107 rfl ?_
  obtain ⟨x1, ex1, H⟩ := bind_some H
  refine go_callS (vs := [aI v3, aI v5]) (stk := []) (o1 := (some (aI x1), h)) mk_X12_has ss_X12_behindOf_64 dX12_behindOf_109 rfl rfl (Nat.le_of_ble_eq_true rfl) (Nat.le_of_ble_eq_true rfl) (ok_X12_has ex1) (show Go M_X12_behindOf (some (aI r), h) 112 [some (aA v0), some (aI v1), some (aI v2), some (aI v3), some (aI v4), some (aI v5), none, some (aI v7)] [aI x1] h from ?_)
  refine go_if_eq (tgt := 120) dX12_behindOf_112 (by decide) (fun c2 => ?_) (fun c2 => ?_)
  · rw [if_pos c2] at H
    refine go_iload dX12_behindOf_120 rfl ?_
    refine go_mask [true, true, true, true, false, true, false, false] (loc' := [some (aA v0), some (aI v1), some (aI v2), some (aI v3), none, some (aI v5), none, none]) rfl ?_
    exact okj_X12_behindOf_122 v0 v1 v2 v3 v5 v4 h K130 k HK130 Hk H
  · rw [if_neg c2] at H
    refine go_iload dX12_behindOf_115 rfl ?_
    refine go_goto (tgt := 122) dX12_behindOf_117 (by decide) ?_
    refine go_mask [true, true, true, true, false, true, false, false] (loc' := [some (aA v0), some (aI v1), some (aI v2), some (aI v3), none, some (aI v5), none, none]) rfl ?_
    exact okj_X12_behindOf_122 v0 v1 v2 v3 v5 v7 h K130 k HK130 Hk H
def j_X12_behindOf_74 (v0 : Nat) (v1 : Int32) (v2 : Int32) (v3 : Int32) (v4 : Int32) (v5 : Int32) (s0 : Int32) (h : Hp) (K130 : Int32 → Option Int32) (k : Int32 → Int32 → Option Int32) : Option Int32 :=
  (m_X12_has v3 v5 h).bind fun x1 => if x1 = 0 then j_X12_behindOf_106 v0 v1 v2 v3 v4 v5 s0 h K130 k else if s0 = (-1 : Int32) then (some (-1 : Int32)) else if v4 = (-1 : Int32) then j_X12_behindOf_106 v0 v1 v2 v3 v4 v5 s0 h K130 k else if s0 = v4 then j_X12_behindOf_106 v0 v1 v2 v3 v4 v5 s0 h K130 k else some (-1 : Int32)
set_option maxRecDepth 20000 in
theorem okj_X12_behindOf_74 {r : Int32} (v0 : Nat) (v1 : Int32) (v2 : Int32) (v3 : Int32) (v4 : Int32) (v5 : Int32) (s0 : Int32) (h : Hp) (K130 : Int32 → Option Int32) (k : Int32 → Int32 → Option Int32) (HK130 : ∀ (v4q : Int32) , K130 v4q = some r → Go M_X12_behindOf (some (aI r), h) 130 [some (aA v0), none, none, some (aI v3), some (aI v4q), none, none, none] [] h) (Hk : ∀ (v4q : Int32) (v5q : Int32), k v4q v5q = some r → Go M_X12_behindOf (some (aI r), h) 6 [some (aA v0), some (aI v1), some (aI v2), some (aI v3), some (aI v4q), some (aI v5q), none, none] [] h) (H : j_X12_behindOf_74 v0 v1 v2 v3 v4 v5 s0 h K130 k = some r) : Go M_X12_behindOf (some (aI r), h) 74 [some (aA v0), some (aI v1), some (aI v2), some (aI v3), some (aI v4), some (aI v5), none, none] [aI s0] h := by
  unfold j_X12_behindOf_74 at H
  refine go_istore (loc2 := [some (aA v0), some (aI v1), some (aI v2), some (aI v3), some (aI v4), some (aI v5), none, some (aI s0)]) dX12_behindOf_74 (by decide) rfl ?_
  refine go_iloadn dX12_behindOf_76 rfl ?_
  refine go_iload dX12_behindOf_77 rfl ?_
  obtain ⟨x1, ex1, H⟩ := bind_some H
  refine go_callS (vs := [aI v3, aI v5]) (stk := []) (o1 := (some (aI x1), h)) mk_X12_has ss_X12_behindOf_64 dX12_behindOf_79 rfl rfl (Nat.le_of_ble_eq_true rfl) (Nat.le_of_ble_eq_true rfl) (ok_X12_has ex1) (show Go M_X12_behindOf (some (aI r), h) 82 [some (aA v0), some (aI v1), some (aI v2), some (aI v3), some (aI v4), some (aI v5), none, some (aI s0)] [aI x1] h from ?_)
  refine go_if_eq (tgt := 106) dX12_behindOf_82 (by decide) (fun c2 => ?_) (fun c2 => ?_)
  · replace H := (gm_ite H).1 c2
    exact okj_X12_behindOf_106 v0 v1 v2 v3 v4 v5 s0 h K130 k HK130 Hk H
  · replace H := (gm_ite H).2 c2
    refine go_iload dX12_behindOf_85 rfl ?_
    refine go_iconst (v := (-1 : Int32)) dX12_behindOf_87 rfl ?_
    refine go_icmp_eq (tgt := 104) dX12_behindOf_88 (by decide) (fun c3 => ?_) (fun c3 => ?_)
    · replace H := (gm_ite H).1 c3
      refine go_iconst (v := (-1 : Int32)) dX12_behindOf_104 rfl ?_
      obtain rfl := Option.some.inj H
      exact go_ireturn dX12_behindOf_105 (tyI_int rfl)
    · replace H := (gm_ite H).2 c3
      refine go_iload dX12_behindOf_91 rfl ?_
      refine go_iconst (v := (-1 : Int32)) dX12_behindOf_93 rfl ?_
      refine go_icmp_eq (tgt := 106) dX12_behindOf_94 (by decide) (fun c4 => ?_) (fun c4 => ?_)
      · replace H := (gm_ite H).1 c4
        exact okj_X12_behindOf_106 v0 v1 v2 v3 v4 v5 s0 h K130 k HK130 Hk H
      · replace H := (gm_ite H).2 c4
        refine go_iload dX12_behindOf_97 rfl ?_
        refine go_iload dX12_behindOf_99 rfl ?_
        refine go_icmp_eq (tgt := 106) dX12_behindOf_101 (by decide) (fun c5 => ?_) (fun c5 => ?_)
        · replace H := (gm_ite H).1 c5
          exact okj_X12_behindOf_106 v0 v1 v2 v3 v4 v5 s0 h K130 k HK130 Hk H
        · replace H := (gm_ite H).2 c5
          refine go_iconst (v := (-1 : Int32)) dX12_behindOf_104 rfl ?_
          obtain rfl := Option.some.inj H
          exact go_ireturn dX12_behindOf_105 (tyI_int rfl)
def j_X12_behindOf_37 (v0 : Nat) (v1 : Int32) (v2 : Int32) (v3 : Int32) (v4 : Int32) (v5 : Int32) (s0 : Int32) (h : Hp) (K130 : Int32 → Option Int32) (k : Int32 → Int32 → Option Int32) : Option Int32 :=
  if s0 = (-1 : Int32) then j_X12_behindOf_74 v0 v1 v2 v3 v4 v5 (-1 : Int32) h K130 k else (rc h v0 12 (m_X12_longOf v0 v1 v5 h)).bind fun x1 => if (s0 + (1 : Int32)) < x1 then ((rc h v0 12 (m_X12_tokenAt v0 v1 v5 (s0 + (1 : Int32)) h)).bind fun x2 => j_X12_behindOf_74 v0 v1 v2 v3 v4 v5 x2 h K130 k) else j_X12_behindOf_74 v0 v1 v2 v3 v4 v5 (-1 : Int32) h K130 k
set_option maxRecDepth 20000 in
theorem okj_X12_behindOf_37 {r : Int32} (v0 : Nat) (v1 : Int32) (v2 : Int32) (v3 : Int32) (v4 : Int32) (v5 : Int32) (s0 : Int32) (h : Hp) (K130 : Int32 → Option Int32) (k : Int32 → Int32 → Option Int32) (HK130 : ∀ (v4q : Int32) , K130 v4q = some r → Go M_X12_behindOf (some (aI r), h) 130 [some (aA v0), none, none, some (aI v3), some (aI v4q), none, none, none] [] h) (Hk : ∀ (v4q : Int32) (v5q : Int32), k v4q v5q = some r → Go M_X12_behindOf (some (aI r), h) 6 [some (aA v0), some (aI v1), some (aI v2), some (aI v3), some (aI v4q), some (aI v5q), none, none] [] h) (H : j_X12_behindOf_37 v0 v1 v2 v3 v4 v5 s0 h K130 k = some r) : Go M_X12_behindOf (some (aI r), h) 37 [some (aA v0), some (aI v1), some (aI v2), some (aI v3), some (aI v4), some (aI v5), none, none] [aI s0] h := by
  unfold j_X12_behindOf_37 at H
  refine go_istore (loc2 := [some (aA v0), some (aI v1), some (aI v2), some (aI v3), some (aI v4), some (aI v5), some (aI s0), none]) dX12_behindOf_37 (by decide) rfl ?_
  refine go_iload dX12_behindOf_39 rfl ?_
  refine go_iconst (v := (-1 : Int32)) dX12_behindOf_41 rfl ?_
  refine go_icmp_eq (tgt := 59) dX12_behindOf_42 (by decide) (fun c1 => ?_) (fun c1 => ?_)
  · replace H := (gm_ite H).1 c1
    refine go_iconst (v := (-1 : Int32)) dX12_behindOf_59 rfl ?_
    refine go_goto (tgt := 74) dX12_behindOf_60 (by decide) ?_
    refine go_mask [true, true, true, true, true, true, false, false] (loc' := [some (aA v0), some (aI v1), some (aI v2), some (aI v3), some (aI v4), some (aI v5), none, none]) rfl ?_
    exact okj_X12_behindOf_74 v0 v1 v2 v3 v4 v5 (-1 : Int32) h K130 k HK130 Hk H
  · replace H := (gm_ite H).2 c1
    refine go_iload dX12_behindOf_45 rfl ?_
    refine go_iconst (v := (1 : Int32)) dX12_behindOf_47 rfl ?_
    refine go_iadd dX12_behindOf_48 ?_
    refine go_aloadn dX12_behindOf_49 rfl ?_
    refine go_iloadn dX12_behindOf_50 rfl ?_
    refine go_iload dX12_behindOf_51 rfl ?_
    obtain ⟨c2, x1, ex1, H⟩ := gm_rc H
    refine go_callV (vs := [aI v1, aI v5]) (stk := [aI (s0 + (1 : Int32))]) (o1 := (some (aI x1), h)) mk_X12_longOf sv_X12_behindOf_269 cl_X12 rfl dX12_behindOf_53 c2 rfl rfl (Nat.le_of_ble_eq_true rfl) (Nat.le_of_ble_eq_true rfl) (ok_X12_longOf ex1) (show Go M_X12_behindOf (some (aI r), h) 56 [some (aA v0), some (aI v1), some (aI v2), some (aI v3), some (aI v4), some (aI v5), some (aI s0), none] [aI x1, aI (s0 + (1 : Int32))] h from ?_)
    refine go_icmp_lt (tgt := 63) dX12_behindOf_56 (by decide) (fun c3 => ?_) (fun c3 => ?_)
    · replace H := (gm_ite H).1 c3
      refine go_aloadn dX12_behindOf_63 rfl ?_
      refine go_iloadn dX12_behindOf_64 rfl ?_
      refine go_iload dX12_behindOf_65 rfl ?_
      refine go_iload dX12_behindOf_67 rfl ?_
      refine go_iconst (v := (1 : Int32)) dX12_behindOf_69 rfl ?_
      refine go_iadd dX12_behindOf_70 ?_
      obtain ⟨c4, x2, ex2, H⟩ := gm_rc H
      refine go_callV (vs := [aI v1, aI v5, aI (s0 + (1 : Int32))]) (stk := []) (o1 := (some (aI x2), h)) mk_X12_tokenAt sv_X12_behindOf_262 cl_X12 rfl dX12_behindOf_71 c4 rfl rfl (Nat.le_of_ble_eq_true rfl) (Nat.le_of_ble_eq_true rfl) (ok_X12_tokenAt ex2) (show Go M_X12_behindOf (some (aI r), h) 74 [some (aA v0), some (aI v1), some (aI v2), some (aI v3), some (aI v4), some (aI v5), some (aI s0), none] [aI x2] h from ?_)
      refine go_mask [true, true, true, true, true, true, false, false] (loc' := [some (aA v0), some (aI v1), some (aI v2), some (aI v3), some (aI v4), some (aI v5), none, none]) rfl ?_
      exact okj_X12_behindOf_74 v0 v1 v2 v3 v4 v5 x2 h K130 k HK130 Hk H
    · replace H := (gm_ite H).2 c3
      refine go_iconst (v := (-1 : Int32)) dX12_behindOf_59 rfl ?_
      refine go_goto (tgt := 74) dX12_behindOf_60 (by decide) ?_
      refine go_mask [true, true, true, true, true, true, false, false] (loc' := [some (aA v0), some (aI v1), some (aI v2), some (aI v3), some (aI v4), some (aI v5), none, none]) rfl ?_
      exact okj_X12_behindOf_74 v0 v1 v2 v3 v4 v5 (-1 : Int32) h K130 k HK130 Hk H
def b_X12_behindOf_6 (v0 : Nat) (v1 : Int32) (v2 : Int32) (v3 : Int32) (h : Hp) (K130 : Int32 → Option Int32) (k : Int32 → Int32 → Option Int32) (v4 : Int32) (v5 : Int32) : Option Int32 :=
  (rc h v0 12 (m_X12_versions v0 v1 h)).bind fun x1 => if x1 ≤ v5 then K130 v4 else (m_X12_has v3 v5 h).bind fun x2 => if x2 = 0 then j_X12_behindOf_37 v0 v1 v2 v3 v4 v5 (-1 : Int32) h K130 k else (rc h v0 12 (m_X12_placeOf v0 v1 v5 v2 h)).bind fun x3 => j_X12_behindOf_37 v0 v1 v2 v3 v4 v5 x3 h K130 k
set_option maxRecDepth 20000 in
theorem okb_X12_behindOf_6 {r : Int32} (v0 : Nat) (v1 : Int32) (v2 : Int32) (v3 : Int32) (h : Hp) (K130 : Int32 → Option Int32) (k : Int32 → Int32 → Option Int32) (v4 : Int32) (v5 : Int32) (HK130 : ∀ (v4q : Int32) , K130 v4q = some r → Go M_X12_behindOf (some (aI r), h) 130 [some (aA v0), none, none, some (aI v3), some (aI v4q), none, none, none] [] h) (Hk : ∀ (v4q : Int32) (v5q : Int32), k v4q v5q = some r → Go M_X12_behindOf (some (aI r), h) 6 [some (aA v0), some (aI v1), some (aI v2), some (aI v3), some (aI v4q), some (aI v5q), none, none] [] h) (H : b_X12_behindOf_6 v0 v1 v2 v3 h K130 k v4 v5 = some r) : Go M_X12_behindOf (some (aI r), h) 6 [some (aA v0), some (aI v1), some (aI v2), some (aI v3), some (aI v4), some (aI v5), none, none] [] h := by
  unfold b_X12_behindOf_6 at H
  refine go_iload dX12_behindOf_6 rfl ?_
  refine go_aloadn dX12_behindOf_8 rfl ?_
  refine go_iloadn dX12_behindOf_9 rfl ?_
  obtain ⟨c1, x1, ex1, H⟩ := gm_rc H
  refine go_callV (vs := [aI v1]) (stk := [aI v5]) (o1 := (some (aI x1), h)) mk_X12_versions sv_X12_behindOf_259 cl_X12 rfl dX12_behindOf_10 c1 rfl rfl (Nat.le_of_ble_eq_true rfl) (Nat.le_of_ble_eq_true rfl) (ok_X12_versions ex1) (show Go M_X12_behindOf (some (aI r), h) 13 [some (aA v0), some (aI v1), some (aI v2), some (aI v3), some (aI v4), some (aI v5), none, none] [aI x1, aI v5] h from ?_)
  refine go_icmp_ge (tgt := 130) dX12_behindOf_13 (by decide) (fun c2 => ?_) (fun c2 => ?_)
  · replace H := (gm_ite H).1 c2
    refine go_mask [true, false, false, true, true, false, false, false] (loc' := [some (aA v0), none, none, some (aI v3), some (aI v4), none, none, none]) rfl ?_
    exact HK130 v4 H
  · replace H := (gm_ite H).2 c2
    refine go_iloadn dX12_behindOf_16 rfl ?_
    refine go_iload dX12_behindOf_17 rfl ?_
    obtain ⟨x2, ex2, H⟩ := bind_some H
    refine go_callS (vs := [aI v3, aI v5]) (stk := []) (o1 := (some (aI x2), h)) mk_X12_has ss_X12_behindOf_64 dX12_behindOf_19 rfl rfl (Nat.le_of_ble_eq_true rfl) (Nat.le_of_ble_eq_true rfl) (ok_X12_has ex2) (show Go M_X12_behindOf (some (aI r), h) 22 [some (aA v0), some (aI v1), some (aI v2), some (aI v3), some (aI v4), some (aI v5), none, none] [aI x2] h from ?_)
    refine go_if_eq (tgt := 36) dX12_behindOf_22 (by decide) (fun c4 => ?_) (fun c4 => ?_)
    · replace H := (gm_ite H).1 c4
      refine go_iconst (v := (-1 : Int32)) dX12_behindOf_36 rfl ?_
      exact okj_X12_behindOf_37 v0 v1 v2 v3 v4 v5 (-1 : Int32) h K130 k HK130 Hk H
    · replace H := (gm_ite H).2 c4
      refine go_aloadn dX12_behindOf_25 rfl ?_
      refine go_iloadn dX12_behindOf_26 rfl ?_
      refine go_iload dX12_behindOf_27 rfl ?_
      refine go_iloadn dX12_behindOf_29 rfl ?_
      obtain ⟨c5, x3, ex3, H⟩ := gm_rc H
      refine go_callV (vs := [aI v1, aI v5, aI v2]) (stk := []) (o1 := (some (aI x3), h)) mk_X12_placeOf sv_X12_behindOf_272 cl_X12 rfl dX12_behindOf_30 c5 rfl rfl (Nat.le_of_ble_eq_true rfl) (Nat.le_of_ble_eq_true rfl) (ok_X12_placeOf ex3) (show Go M_X12_behindOf (some (aI r), h) 33 [some (aA v0), some (aI v1), some (aI v2), some (aI v3), some (aI v4), some (aI v5), none, none] [aI x3] h from ?_)
      refine go_goto (tgt := 37) dX12_behindOf_33 (by decide) ?_
      exact okj_X12_behindOf_37 v0 v1 v2 v3 v4 v5 x3 h K130 k HK130 Hk H
def l_X12_behindOf_6 (v0 : Nat) (v1 : Int32) (v2 : Int32) (v3 : Int32) (h : Hp) (K130 : Int32 → Option Int32) (v4 : Int32) (v5 : Int32) : Option Int32 := loopK FUEL (fun (k : Int32 × Int32 → Option Int32) (s : Int32 × Int32) => b_X12_behindOf_6 v0 v1 v2 v3 h K130 (fun v4q v5q => k (v4q, v5q)) s.1 s.2) (v4, v5)
theorem okl_X12_behindOf_6 {r : Int32} (v0 : Nat) (v1 : Int32) (v2 : Int32) (v3 : Int32) (h : Hp) (K130 : Int32 → Option Int32) (v4 : Int32) (v5 : Int32) (HK130 : ∀ (v4q : Int32) , K130 v4q = some r → Go M_X12_behindOf (some (aI r), h) 130 [some (aA v0), none, none, some (aI v3), some (aI v4q), none, none, none] [] h) (H : l_X12_behindOf_6 v0 v1 v2 v3 h K130 v4 v5 = some r) : Go M_X12_behindOf (some (aI r), h) 6 [some (aA v0), some (aI v1), some (aI v2), some (aI v3), some (aI v4), some (aI v5), none, none] [] h := by
  unfold l_X12_behindOf_6 at H
  exact go_loop (σ := Int32 × Int32) (body := (fun (k : Int32 × Int32 → Option Int32) (s : Int32 × Int32) => b_X12_behindOf_6 v0 v1 v2 v3 h K130 (fun v4q v5q => k (v4q, v5q)) s.1 s.2)) (fun s => [some (aA v0), some (aI v1), some (aI v2), some (aI v3), some (aI s.1), some (aI s.2), none, none]) (fun s => h) (fun k s Hk H => okb_X12_behindOf_6 v0 v1 v2 v3 h K130 (fun v4q v5q => k (v4q, v5q)) s.1 s.2 HK130 (fun v4q v5q H => Hk (v4q, v5q) H) H) FUEL (v4, v5) H
def j_X12_behindOf_152  (s0 : Int32) (h : Hp) : Option Int32 :=
  some s0
set_option maxRecDepth 20000 in
theorem okj_X12_behindOf_152 {r : Int32}  (s0 : Int32) (h : Hp) (H : j_X12_behindOf_152 s0 h = some r) : Go M_X12_behindOf (some (aI r), h) 152 [none, none, none, none, none, none, none, none] [aI s0] h := by
  unfold j_X12_behindOf_152 at H
  obtain rfl := Option.some.inj H
  exact go_ireturn dX12_behindOf_152 (tyI_int rfl)
def j_X12_behindOf_130 (v0 : Nat) (v3 : Int32) (v4 : Int32)  (h : Hp) : Option Int32 :=
  if v4 = (-1 : Int32) then j_X12_behindOf_152 (-1 : Int32) h else (rc h v0 12 (m_X12_whereIs v0 v4 h)).bind fun x1 => j_X12_behindOf_152 (if ¬ x1 = v3 then (-1 : Int32) else v4) h
set_option maxRecDepth 20000 in
theorem okj_X12_behindOf_130 {r : Int32} (v0 : Nat) (v3 : Int32) (v4 : Int32)  (h : Hp) (H : j_X12_behindOf_130 v0 v3 v4 h = some r) : Go M_X12_behindOf (some (aI r), h) 130 [some (aA v0), none, none, some (aI v3), some (aI v4), none, none, none] [] h := by
  unfold j_X12_behindOf_130 at H
  refine go_iload dX12_behindOf_130 rfl ?_
  refine go_iconst (v := (-1 : Int32)) dX12_behindOf_132 rfl ?_
  refine go_icmp_eq (tgt := 151) dX12_behindOf_133 (by decide) (fun c1 => ?_) (fun c1 => ?_)
  · replace H := (gm_ite H).1 c1
    refine go_iconst (v := (-1 : Int32)) dX12_behindOf_151 rfl ?_
    refine go_mask [false, false, false, false, false, false, false, false] (loc' := [none, none, none, none, none, none, none, none]) rfl ?_
    exact okj_X12_behindOf_152 (-1 : Int32) h  H
  · replace H := (gm_ite H).2 c1
    refine go_aloadn dX12_behindOf_136 rfl ?_
    refine go_iload dX12_behindOf_137 rfl ?_
    obtain ⟨c2, x1, ex1, H⟩ := gm_rc H
    refine go_callV (vs := [aI v4]) (stk := []) (o1 := (some (aI x1), h)) mk_X12_whereIs sv_X12_behindOf_278 cl_X12 rfl dX12_behindOf_139 c2 rfl rfl (Nat.le_of_ble_eq_true rfl) (Nat.le_of_ble_eq_true rfl) (ok_X12_whereIs ex1) (show Go M_X12_behindOf (some (aI r), h) 142 [some (aA v0), none, none, some (aI v3), some (aI v4), none, none, none] [aI x1] h from ?_)
    refine go_iloadn dX12_behindOf_142 rfl ?_
    refine go_icmp_ne (tgt := 151) dX12_behindOf_143 (by decide) (fun c3 => ?_) (fun c3 => ?_)
    · rw [if_pos c3] at H
      refine go_iconst (v := (-1 : Int32)) dX12_behindOf_151 rfl ?_
      refine go_mask [false, false, false, false, false, false, false, false] (loc' := [none, none, none, none, none, none, none, none]) rfl ?_
      exact okj_X12_behindOf_152 (-1 : Int32) h  H
    · rw [if_neg c3] at H
      refine go_iload dX12_behindOf_146 rfl ?_
      refine go_goto (tgt := 152) dX12_behindOf_148 (by decide) ?_
      refine go_mask [false, false, false, false, false, false, false, false] (loc' := [none, none, none, none, none, none, none, none]) rfl ?_
      exact okj_X12_behindOf_152 v4 h  H
def m_X12_behindOf (v0 : Nat) (v1 : Int32) (v2 : Int32) (v3 : Int32) (h : Hp) : Option Int32 :=
  l_X12_behindOf_6 v0 v1 v2 v3 h (fun a1_4 => j_X12_behindOf_130 v0 v3 a1_4 h) (-1 : Int32) (0 : Int32)
set_option maxRecDepth 20000 in
theorem ok_X12_behindOf {r : Int32} {v0 : Nat} {v1 : Int32} {v2 : Int32} {v3 : Int32} {h : Hp} (H : m_X12_behindOf v0 v1 v2 v3 h = some r) : Ev M_X12_behindOf [aA v0, aI v1, aI v2, aI v3] h (some (aI r), h) := by
  show Go M_X12_behindOf (some (aI r), h) 0 [some (aA v0), some (aI v1), some (aI v2), some (aI v3), none, none, none, none] [] h
  unfold m_X12_behindOf at H
  refine go_iconst (v := (-1 : Int32)) dX12_behindOf_0 rfl ?_
  refine go_istore (loc2 := [some (aA v0), some (aI v1), some (aI v2), some (aI v3), some (aI (-1 : Int32)), none, none, none]) dX12_behindOf_1 (by decide) rfl ?_
  refine go_iconst (v := (0 : Int32)) dX12_behindOf_3 rfl ?_
  refine go_istore (loc2 := [some (aA v0), some (aI v1), some (aI v2), some (aI v3), some (aI (-1 : Int32)), some (aI (0 : Int32)), none, none]) dX12_behindOf_4 (by decide) rfl ?_
  refine okl_X12_behindOf_6 v0 v1 v2 v3 h (fun a1_4 => j_X12_behindOf_130 v0 v3 a1_4 h) (-1 : Int32) (0 : Int32) ?_ H
  · intro a1_4 H
    exact okj_X12_behindOf_130 v0 v3 a1_4 h  H
/-! X12_hasAhead -/
def j_X12_hasAhead_51 (v0 : Nat) (v1 : Int32) (v2 : Int32) (v3 : Int32) (v4 : Int32)  (h : Hp) (k : Int32 → Option Int32) : Option Int32 :=
  k (v4 + (1 : Int32))
set_option maxRecDepth 20000 in
theorem okj_X12_hasAhead_51 {r : Int32} (v0 : Nat) (v1 : Int32) (v2 : Int32) (v3 : Int32) (v4 : Int32)  (h : Hp) (k : Int32 → Option Int32) (Hk : ∀ (v4q : Int32), k v4q = some r → Go M_X12_hasAhead (some (aI r), h) 3 [some (aA v0), some (aI v1), some (aI v2), some (aI v3), some (aI v4q)] [] h) (H : j_X12_hasAhead_51 v0 v1 v2 v3 v4 h k = some r) : Go M_X12_hasAhead (some (aI r), h) 51 [some (aA v0), some (aI v1), some (aI v2), some (aI v3), some (aI v4)] [] h := by
  unfold j_X12_hasAhead_51 at H
  refine go_iinc (v := (v4 + (1 : Int32))) (loc2 := [some (aA v0), some (aI v1), some (aI v2), some (aI v3), some (aI (v4 + (1 : Int32)))]) dX12_hasAhead_51 rfl rfl (by decide) rfl ?_
  refine go_goto (tgt := 3) dX12_hasAhead_54 (by decide) ?_
  exact Hk (v4 + (1 : Int32)) H
def b_X12_hasAhead_3 (v0 : Nat) (v1 : Int32) (v2 : Int32) (v3 : Int32) (h : Hp) (k : Int32 → Option Int32) (v4 : Int32) : Option Int32 :=
  (gfI h v0 12 24).bind fun x1 => if x1 ≤ v4 then (some (0 : Int32)) else (gfR h v0 12 18).bind fun x2 => (alI h x2 ((1206 : Int32) + v4)).bind fun x3 => if ¬ x3 = v1 then j_X12_hasAhead_51 v0 v1 v2 v3 v4 h k else (rc h v0 12 (m_X12_whereIs v0 v4 h)).bind fun x4 => if ¬ x4 = v3 then j_X12_hasAhead_51 v0 v1 v2 v3 v4 h k else (rc h v0 12 (m_X12_behindOf v0 v1 v4 v3 h)).bind fun x5 => if ¬ x5 = v2 then j_X12_hasAhead_51 v0 v1 v2 v3 v4 h k else some (1 : Int32)
set_option maxRecDepth 20000 in
theorem okb_X12_hasAhead_3 {r : Int32} (v0 : Nat) (v1 : Int32) (v2 : Int32) (v3 : Int32) (h : Hp) (k : Int32 → Option Int32) (v4 : Int32) (Hk : ∀ (v4q : Int32), k v4q = some r → Go M_X12_hasAhead (some (aI r), h) 3 [some (aA v0), some (aI v1), some (aI v2), some (aI v3), some (aI v4q)] [] h) (H : b_X12_hasAhead_3 v0 v1 v2 v3 h k v4 = some r) : Go M_X12_hasAhead (some (aI r), h) 3 [some (aA v0), some (aI v1), some (aI v2), some (aI v3), some (aI v4)] [] h := by
  unfold b_X12_hasAhead_3 at H
  refine go_iload dX12_hasAhead_3 rfl ?_
  refine go_aloadn dX12_hasAhead_5 rfl ?_
  refine gm_getI fd_X12_253 dX12_hasAhead_6 H (fun x1 H => ?_)
  refine go_icmp_ge (tgt := 57) dX12_hasAhead_9 (by decide) (fun c1 => ?_) (fun c1 => ?_)
  · replace H := (gm_ite H).1 c1
    refine go_iconst (v := (0 : Int32)) dX12_hasAhead_57 rfl ?_
    obtain rfl := Option.some.inj H
    exact go_ireturn (x := (0 : Int32)) dX12_hasAhead_58 (tyI_bool rfl (by decide))
  · replace H := (gm_ite H).2 c1
    refine go_aloadn dX12_hasAhead_12 rfl ?_
    refine gm_getR fd_X12_35 dX12_hasAhead_13 H (fun x2 H => ?_)
    refine go_sipush (v := (1206 : Int32)) dX12_hasAhead_16 rfl ?_
    refine go_iload dX12_hasAhead_19 rfl ?_
    refine go_iadd dX12_hasAhead_21 ?_
    refine gm_iald dX12_hasAhead_22 H (fun x3 H => ?_)
    refine go_iloadn dX12_hasAhead_23 rfl ?_
    refine go_icmp_ne (tgt := 51) dX12_hasAhead_24 (by decide) (fun c2 => ?_) (fun c2 => ?_)
    · replace H := (gm_ite H).1 c2
      exact okj_X12_hasAhead_51 v0 v1 v2 v3 v4 h k Hk H
    · replace H := (gm_ite H).2 c2
      refine go_aloadn dX12_hasAhead_27 rfl ?_
      refine go_iload dX12_hasAhead_28 rfl ?_
      obtain ⟨c3, x4, ex4, H⟩ := gm_rc H
      refine go_callV (vs := [aI v4]) (stk := []) (o1 := (some (aI x4), h)) mk_X12_whereIs sv_X12_hasAhead_278 cl_X12 rfl dX12_hasAhead_30 c3 rfl rfl (Nat.le_of_ble_eq_true rfl) (Nat.le_of_ble_eq_true rfl) (ok_X12_whereIs ex4) (show Go M_X12_hasAhead (some (aI r), h) 33 [some (aA v0), some (aI v1), some (aI v2), some (aI v3), some (aI v4)] [aI x4] h from ?_)
      refine go_iloadn dX12_hasAhead_33 rfl ?_
      refine go_icmp_ne (tgt := 51) dX12_hasAhead_34 (by decide) (fun c4 => ?_) (fun c4 => ?_)
      · replace H := (gm_ite H).1 c4
        exact okj_X12_hasAhead_51 v0 v1 v2 v3 v4 h k Hk H
      · replace H := (gm_ite H).2 c4
        refine go_aloadn dX12_hasAhead_37 rfl ?_
        refine go_iloadn dX12_hasAhead_38 rfl ?_
        refine go_iload dX12_hasAhead_39 rfl ?_
        refine go_iloadn dX12_hasAhead_41 rfl ?_
        obtain ⟨c5, x5, ex5, H⟩ := gm_rc H
        refine go_callV (vs := [aI v1, aI v4, aI v3]) (stk := []) (o1 := (some (aI x5), h)) mk_X12_behindOf sv_X12_hasAhead_291 cl_X12 rfl dX12_hasAhead_42 c5 rfl rfl (Nat.le_of_ble_eq_true rfl) (Nat.le_of_ble_eq_true rfl) (ok_X12_behindOf ex5) (show Go M_X12_hasAhead (some (aI r), h) 45 [some (aA v0), some (aI v1), some (aI v2), some (aI v3), some (aI v4)] [aI x5] h from ?_)
        refine go_iloadn dX12_hasAhead_45 rfl ?_
        refine go_icmp_ne (tgt := 51) dX12_hasAhead_46 (by decide) (fun c6 => ?_) (fun c6 => ?_)
        · replace H := (gm_ite H).1 c6
          exact okj_X12_hasAhead_51 v0 v1 v2 v3 v4 h k Hk H
        · replace H := (gm_ite H).2 c6
          refine go_iconst (v := (1 : Int32)) dX12_hasAhead_49 rfl ?_
          obtain rfl := Option.some.inj H
          exact go_ireturn (x := (1 : Int32)) dX12_hasAhead_50 (tyI_bool rfl (by decide))
def l_X12_hasAhead_3 (v0 : Nat) (v1 : Int32) (v2 : Int32) (v3 : Int32) (h : Hp) (v4 : Int32) : Option Int32 := loopK FUEL (fun (k : Int32 → Option Int32) (s : Int32) => b_X12_hasAhead_3 v0 v1 v2 v3 h (fun v4q => k v4q) s) v4
theorem okl_X12_hasAhead_3 {r : Int32} (v0 : Nat) (v1 : Int32) (v2 : Int32) (v3 : Int32) (h : Hp) (v4 : Int32) (H : l_X12_hasAhead_3 v0 v1 v2 v3 h v4 = some r) : Go M_X12_hasAhead (some (aI r), h) 3 [some (aA v0), some (aI v1), some (aI v2), some (aI v3), some (aI v4)] [] h := by
  unfold l_X12_hasAhead_3 at H
  exact go_loop (σ := Int32) (body := (fun (k : Int32 → Option Int32) (s : Int32) => b_X12_hasAhead_3 v0 v1 v2 v3 h (fun v4q => k v4q) s)) (fun s => [some (aA v0), some (aI v1), some (aI v2), some (aI v3), some (aI s)]) (fun s => h) (fun k s Hk H => okb_X12_hasAhead_3 v0 v1 v2 v3 h (fun v4q => k v4q) s  (fun v4q H => Hk v4q H) H) FUEL v4 H
def m_X12_hasAhead (v0 : Nat) (v1 : Int32) (v2 : Int32) (v3 : Int32) (h : Hp) : Option Int32 :=
  l_X12_hasAhead_3 v0 v1 v2 v3 h (0 : Int32)
set_option maxRecDepth 20000 in
theorem ok_X12_hasAhead {r : Int32} {v0 : Nat} {v1 : Int32} {v2 : Int32} {v3 : Int32} {h : Hp} (H : m_X12_hasAhead v0 v1 v2 v3 h = some r) : Ev M_X12_hasAhead [aA v0, aI v1, aI v2, aI v3] h (some (aI r), h) := by
  show Go M_X12_hasAhead (some (aI r), h) 0 [some (aA v0), some (aI v1), some (aI v2), some (aI v3), none] [] h
  unfold m_X12_hasAhead at H
  refine go_iconst (v := (0 : Int32)) dX12_hasAhead_0 rfl ?_
  refine go_istore (loc2 := [some (aA v0), some (aI v1), some (aI v2), some (aI v3), some (aI (0 : Int32))]) dX12_hasAhead_1 (by decide) rfl ?_
  exact okl_X12_hasAhead_3 v0 v1 v2 v3 h (0 : Int32) H
/-! X12_greater -/
def j_X12_greater_10  (s0 : Int32) (h : Hp) : Option Int32 :=
  some s0
set_option maxRecDepth 20000 in
theorem okj_X12_greater_10 {r : Int32}  (s0 : Int32) (h : Hp) (H : j_X12_greater_10 s0 h = some r) : Go M_X12_greater (some (aI r), h) 10 [none, none] [aI s0] h := by
  unfold j_X12_greater_10 at H
  obtain rfl := Option.some.inj H
  exact go_ireturn dX12_greater_10 (tyI_int rfl)
def m_X12_greater (v0 : Int32) (v1 : Int32) (h : Hp) : Option Int32 :=
  j_X12_greater_10 (if v0 ≤ v1 then v1 else v0) h
set_option maxRecDepth 20000 in
theorem ok_X12_greater {r : Int32} {v0 : Int32} {v1 : Int32} {h : Hp} (H : m_X12_greater v0 v1 h = some r) : Ev M_X12_greater [aI v0, aI v1] h (some (aI r), h) := by
  show Go M_X12_greater (some (aI r), h) 0 [some (aI v0), some (aI v1)] [] h
  unfold m_X12_greater at H
  refine go_iloadn dX12_greater_0 rfl ?_
  refine go_iloadn dX12_greater_1 rfl ?_
  refine go_icmp_le (tgt := 9) dX12_greater_2 (by decide) (fun c1 => ?_) (fun c1 => ?_)
  · rw [if_pos c1] at H
    refine go_iloadn dX12_greater_9 rfl ?_
    refine go_mask [false, false] (loc' := [none, none]) rfl ?_
    exact okj_X12_greater_10 v1 h  H
  · rw [if_neg c1] at H
    refine go_iloadn dX12_greater_5 rfl ?_
    refine go_goto (tgt := 10) dX12_greater_6 (by decide) ?_
    refine go_mask [false, false] (loc' := [none, none]) rfl ?_
    exact okj_X12_greater_10 v0 h  H
/-! X12_passages -/
def j_X12_passages_103 (v0 : Nat) (v1 : Int32) (v2 : Int32) (v3 : Int32) (v4 : Int32) (v5 : Int32)  (h : Hp) (K109 : Int32 → Int32 → Option Int32) (k : Int32 → Int32 → Int32 → Option Int32) : Option Int32 :=
  k v3 v4 (v5 + (1 : Int32))
set_option maxRecDepth 20000 in
theorem okj_X12_passages_103 {r : Int32} (v0 : Nat) (v1 : Int32) (v2 : Int32) (v3 : Int32) (v4 : Int32) (v5 : Int32)  (h : Hp) (K109 : Int32 → Int32 → Option Int32) (k : Int32 → Int32 → Int32 → Option Int32) (HK109 : ∀ (v3q : Int32) (v4q : Int32) , K109 v3q v4q = some r → Go M_X12_passages (some (aI r), h) 109 [none, none, some (aI v2), some (aI v3q), some (aI v4q), none, none, none, none] [] h) (Hk : ∀ (v3q : Int32) (v4q : Int32) (v5q : Int32), k v3q v4q v5q = some r → Go M_X12_passages (some (aI r), h) 8 [some (aA v0), some (aI v1), some (aI v2), some (aI v3q), some (aI v4q), some (aI v5q), none, none, none] [] h) (H : j_X12_passages_103 v0 v1 v2 v3 v4 v5 h K109 k = some r) : Go M_X12_passages (some (aI r), h) 103 [some (aA v0), some (aI v1), some (aI v2), some (aI v3), some (aI v4), some (aI v5), none, none, none] [] h := by
  unfold j_X12_passages_103 at H
  refine go_iinc (v := (v5 + (1 : Int32))) (loc2 := [some (aA v0), some (aI v1), some (aI v2), some (aI v3), some (aI v4), some (aI (v5 + (1 : Int32))), none, none, none]) dX12_passages_103 rfl rfl (by decide) rfl ?_
  refine go_goto (tgt := 8) dX12_passages_106 (by decide) ?_
  exact Hk v3 v4 (v5 + (1 : Int32)) H
def b_X12_passages_71 (v0 : Nat) (v1 : Int32) (v2 : Int32) (v3 : Int32) (v4 : Int32) (v5 : Int32) (v6 : Int32) (h : Hp) (K94 : Int32 → Option Int32) (k : Int32 → Int32 → Option Int32) (v7 : Int32) (v8 : Int32) : Option Int32 :=
  if v8 = (-1 : Int32) then K94 v7 else (rc h v0 12 (m_X12_behindOf v0 v1 v8 v6 h)).bind fun x1 => k (v7 + (1 : Int32)) x1
set_option maxRecDepth 20000 in
theorem okb_X12_passages_71 {r : Int32} (v0 : Nat) (v1 : Int32) (v2 : Int32) (v3 : Int32) (v4 : Int32) (v5 : Int32) (v6 : Int32) (h : Hp) (K94 : Int32 → Option Int32) (k : Int32 → Int32 → Option Int32) (v7 : Int32) (v8 : Int32) (HK94 : ∀ (v7q : Int32) , K94 v7q = some r → Go M_X12_passages (some (aI r), h) 94 [some (aA v0), some (aI v1), some (aI v2), some (aI v3), some (aI v4), some (aI v5), none, some (aI v7q), none] [] h) (Hk : ∀ (v7q : Int32) (v8q : Int32), k v7q v8q = some r → Go M_X12_passages (some (aI r), h) 71 [some (aA v0), some (aI v1), some (aI v2), some (aI v3), some (aI v4), some (aI v5), some (aI v6), some (aI v7q), some (aI v8q)] [] h) (H : b_X12_passages_71 v0 v1 v2 v3 v4 v5 v6 h K94 k v7 v8 = some r) : Go M_X12_passages (some (aI r), h) 71 [some (aA v0), some (aI v1), some (aI v2), some (aI v3), some (aI v4), some (aI v5), some (aI v6), some (aI v7), some (aI v8)] [] h := by
  unfold b_X12_passages_71 at H
  refine go_iload dX12_passages_71 rfl ?_
  refine go_iconst (v := (-1 : Int32)) dX12_passages_73 rfl ?_
  refine go_icmp_eq (tgt := 94) dX12_passages_74 (by decide) (fun c1 => ?_) (fun c1 => ?_)
  · replace H := (gm_ite H).1 c1
    refine go_mask [true, true, true, true, true, true, false, true, false] (loc' := [some (aA v0), some (aI v1), some (aI v2), some (aI v3), some (aI v4), some (aI v5), none, some (aI v7), none]) rfl ?_
    exact HK94 v7 H
  · replace H := (gm_ite H).2 c1
    refine go_iinc (v := (v7 + (1 : Int32))) (loc2 := [some (aA v0), some (aI v1), some (aI v2), some (aI v3), some (aI v4), some (aI v5), some (aI v6), some (aI (v7 + (1 : Int32))), some (aI v8)]) dX12_passages_77 rfl rfl (by decide) rfl ?_
    refine go_aloadn dX12_passages_80 rfl ?_
    refine go_iloadn dX12_passages_81 rfl ?_
    refine go_iload dX12_passages_82 rfl ?_
    refine go_iload dX12_passages_84 rfl ?_
    obtain ⟨c2, x1, ex1, H⟩ := gm_rc H
    refine go_callV (vs := [aI v1, aI v8, aI v6]) (stk := []) (o1 := (some (aI x1), h)) mk_X12_behindOf sv_X12_passages_291 cl_X12 rfl dX12_passages_86 c2 rfl rfl (Nat.le_of_ble_eq_true rfl) (Nat.le_of_ble_eq_true rfl) (ok_X12_behindOf ex1) (show Go M_X12_passages (some (aI r), h) 89 [some (aA v0), some (aI v1), some (aI v2), some (aI v3), some (aI v4), some (aI v5), some (aI v6), some (aI (v7 + (1 : Int32))), some (aI v8)] [aI x1] h from ?_)
    refine go_istore (loc2 := [some (aA v0), some (aI v1), some (aI v2), some (aI v3), some (aI v4), some (aI v5), some (aI v6), some (aI (v7 + (1 : Int32))), some (aI x1)]) dX12_passages_89 (by decide) rfl ?_
    refine go_goto (tgt := 71) dX12_passages_91 (by decide) ?_
    exact Hk (v7 + (1 : Int32)) x1 H
def l_X12_passages_71 (v0 : Nat) (v1 : Int32) (v2 : Int32) (v3 : Int32) (v4 : Int32) (v5 : Int32) (v6 : Int32) (h : Hp) (K94 : Int32 → Option Int32) (v7 : Int32) (v8 : Int32) : Option Int32 := loopK FUEL (fun (k : Int32 × Int32 → Option Int32) (s : Int32 × Int32) => b_X12_passages_71 v0 v1 v2 v3 v4 v5 v6 h K94 (fun v7q v8q => k (v7q, v8q)) s.1 s.2) (v7, v8)
theorem okl_X12_passages_71 {r : Int32} (v0 : Nat) (v1 : Int32) (v2 : Int32) (v3 : Int32) (v4 : Int32) (v5 : Int32) (v6 : Int32) (h : Hp) (K94 : Int32 → Option Int32) (v7 : Int32) (v8 : Int32) (HK94 : ∀ (v7q : Int32) , K94 v7q = some r → Go M_X12_passages (some (aI r), h) 94 [some (aA v0), some (aI v1), some (aI v2), some (aI v3), some (aI v4), some (aI v5), none, some (aI v7q), none] [] h) (H : l_X12_passages_71 v0 v1 v2 v3 v4 v5 v6 h K94 v7 v8 = some r) : Go M_X12_passages (some (aI r), h) 71 [some (aA v0), some (aI v1), some (aI v2), some (aI v3), some (aI v4), some (aI v5), some (aI v6), some (aI v7), some (aI v8)] [] h := by
  unfold l_X12_passages_71 at H
  exact go_loop (σ := Int32 × Int32) (body := (fun (k : Int32 × Int32 → Option Int32) (s : Int32 × Int32) => b_X12_passages_71 v0 v1 v2 v3 v4 v5 v6 h K94 (fun v7q v8q => k (v7q, v8q)) s.1 s.2)) (fun s => [some (aA v0), some (aI v1), some (aI v2), some (aI v3), some (aI v4), some (aI v5), some (aI v6), some (aI s.1), some (aI s.2)]) (fun s => h) (fun k s Hk H => okb_X12_passages_71 v0 v1 v2 v3 v4 v5 v6 h K94 (fun v7q v8q => k (v7q, v8q)) s.1 s.2 HK94 (fun v7q v8q H => Hk (v7q, v8q) H) H) FUEL (v7, v8) H
def j_X12_passages_94 (v0 : Nat) (v1 : Int32) (v2 : Int32) (v3 : Int32) (v4 : Int32) (v5 : Int32) (v7 : Int32)  (h : Hp) (K109 : Int32 → Int32 → Option Int32) (k : Int32 → Int32 → Int32 → Option Int32) : Option Int32 :=
  (m_X12_greater v4 v7 h).bind fun x1 => j_X12_passages_103 v0 v1 v2 v3 x1 v5 h K109 k
set_option maxRecDepth 20000 in
theorem okj_X12_passages_94 {r : Int32} (v0 : Nat) (v1 : Int32) (v2 : Int32) (v3 : Int32) (v4 : Int32) (v5 : Int32) (v7 : Int32)  (h : Hp) (K109 : Int32 → Int32 → Option Int32) (k : Int32 → Int32 → Int32 → Option Int32) (HK109 : ∀ (v3q : Int32) (v4q : Int32) , K109 v3q v4q = some r → Go M_X12_passages (some (aI r), h) 109 [none, none, some (aI v2), some (aI v3q), some (aI v4q), none, none, none, none] [] h) (Hk : ∀ (v3q : Int32) (v4q : Int32) (v5q : Int32), k v3q v4q v5q = some r → Go M_X12_passages (some (aI r), h) 8 [some (aA v0), some (aI v1), some (aI v2), some (aI v3q), some (aI v4q), some (aI v5q), none, none, none] [] h) (H : j_X12_passages_94 v0 v1 v2 v3 v4 v5 v7 h K109 k = some r) : Go M_X12_passages (some (aI r), h) 94 [some (aA v0), some (aI v1), some (aI v2), some (aI v3), some (aI v4), some (aI v5), none, some (aI v7), none] [] h := by
  unfold j_X12_passages_94 at H
  refine go_iload dX12_passages_94 rfl ?_
  refine go_iload dX12_passages_96 rfl ?_
  obtain ⟨x1, ex1, H⟩ := bind_some H
  refine go_callS (vs := [aI v4, aI v7]) (stk := []) (o1 := (some (aI x1), h)) mk_X12_greater ss_X12_passages_297 dX12_passages_98 rfl rfl (Nat.le_of_ble_eq_true rfl) (Nat.le_of_ble_eq_true rfl) (ok_X12_greater ex1) (show Go M_X12_passages (some (aI r), h) 101 [some (aA v0), some (aI v1), some (aI v2), some (aI v3), some (aI v4), some (aI v5), none, some (aI v7), none] [aI x1] h from ?_)
  refine go_istore (loc2 := [some (aA v0), some (aI v1), some (aI v2), some (aI v3), some (aI x1), some (aI v5), none, some (aI v7), none]) dX12_passages_101 (by decide) rfl ?_
  refine go_mask [true, true, true, true, true, true, false, false, false] (loc' := [some (aA v0), some (aI v1), some (aI v2), some (aI v3), some (aI x1), some (aI v5), none, none, none]) rfl ?_
  exact okj_X12_passages_103 v0 v1 v2 v3 x1 v5 h K109 k HK109 Hk H
def j_X12_passages_42 (v0 : Nat) (v1 : Int32) (v2 : Int32) (v3 : Int32) (v4 : Int32) (v5 : Int32) (s0 : Int32) (h : Hp) (K109 : Int32 → Int32 → Option Int32) (k : Int32 → Int32 → Int32 → Option Int32) : Option Int32 :=
  if s0 = 0 then j_X12_passages_103 v0 v1 v2 v3 v4 v5 h K109 k else (rc h v0 12 (m_X12_hasAhead v0 v1 v5 s0 h)).bind fun x1 => if ¬ x1 = 0 then j_X12_passages_103 v0 v1 v2 v3 v4 v5 h K109 k else l_X12_passages_71 v0 v1 v2 (v3 + (1 : Int32)) v4 v5 s0 h (fun a2_7 => j_X12_passages_94 v0 v1 v2 (v3 + (1 : Int32)) v4 v5 a2_7 h K109 k) (0 : Int32) v5
set_option maxRecDepth 20000 in
theorem okj_X12_passages_42 {r : Int32} (v0 : Nat) (v1 : Int32) (v2 : Int32) (v3 : Int32) (v4 : Int32) (v5 : Int32) (s0 : Int32) (h : Hp) (K109 : Int32 → Int32 → Option Int32) (k : Int32 → Int32 → Int32 → Option Int32) (HK109 : ∀ (v3q : Int32) (v4q : Int32) , K109 v3q v4q = some r → Go M_X12_passages (some (aI r), h) 109 [none, none, some (aI v2), some (aI v3q), some (aI v4q), none, none, none, none] [] h) (Hk : ∀ (v3q : Int32) (v4q : Int32) (v5q : Int32), k v3q v4q v5q = some r → Go M_X12_passages (some (aI r), h) 8 [some (aA v0), some (aI v1), some (aI v2), some (aI v3q), some (aI v4q), some (aI v5q), none, none, none] [] h) (H : j_X12_passages_42 v0 v1 v2 v3 v4 v5 s0 h K109 k = some r) : Go M_X12_passages (some (aI r), h) 42 [some (aA v0), some (aI v1), some (aI v2), some (aI v3), some (aI v4), some (aI v5), none, none, none] [aI s0] h := by
  unfold j_X12_passages_42 at H
  refine go_istore (loc2 := [some (aA v0), some (aI v1), some (aI v2), some (aI v3), some (aI v4), some (aI v5), some (aI s0), none, none]) dX12_passages_42 (by decide) rfl ?_
  refine go_iload dX12_passages_44 rfl ?_
  refine go_if_eq (tgt := 103) dX12_passages_46 (by decide) (fun c1 => ?_) (fun c1 => ?_)
  · replace H := (gm_ite H).1 c1
    refine go_mask [true, true, true, true, true, true, false, false, false] (loc' := [some (aA v0), some (aI v1), some (aI v2), some (aI v3), some (aI v4), some (aI v5), none, none, none]) rfl ?_
    exact okj_X12_passages_103 v0 v1 v2 v3 v4 v5 h K109 k HK109 Hk H
  · replace H := (gm_ite H).2 c1
    refine go_aloadn dX12_passages_49 rfl ?_
    refine go_iloadn dX12_passages_50 rfl ?_
    refine go_iload dX12_passages_51 rfl ?_
    refine go_iload dX12_passages_53 rfl ?_
    obtain ⟨c2, x1, ex1, H⟩ := gm_rc H
    refine go_callV (vs := [aI v1, aI v5, aI s0]) (stk := []) (o1 := (some (aI x1), h)) mk_X12_hasAhead sv_X12_passages_294 cl_X12 rfl dX12_passages_55 c2 rfl rfl (Nat.le_of_ble_eq_true rfl) (Nat.le_of_ble_eq_true rfl) (ok_X12_hasAhead ex1) (show Go M_X12_passages (some (aI r), h) 58 [some (aA v0), some (aI v1), some (aI v2), some (aI v3), some (aI v4), some (aI v5), some (aI s0), none, none] [aI x1] h from ?_)
    refine go_if_ne (tgt := 103) dX12_passages_58 (by decide) (fun c3 => ?_) (fun c3 => ?_)
    · replace H := (gm_ite H).1 c3
      refine go_mask [true, true, true, true, true, true, false, false, false] (loc' := [some (aA v0), some (aI v1), some (aI v2), some (aI v3), some (aI v4), some (aI v5), none, none, none]) rfl ?_
      exact okj_X12_passages_103 v0 v1 v2 v3 v4 v5 h K109 k HK109 Hk H
    · replace H := (gm_ite H).2 c3
      refine go_iinc (v := (v3 + (1 : Int32))) (loc2 := [some (aA v0), some (aI v1), some (aI v2), some (aI (v3 + (1 : Int32))), some (aI v4), some (aI v5), some (aI s0), none, none]) dX12_passages_61 rfl rfl (by decide) rfl ?_
      refine go_iconst (v := (0 : Int32)) dX12_passages_64 rfl ?_
      refine go_istore (loc2 := [some (aA v0), some (aI v1), some (aI v2), some (aI (v3 + (1 : Int32))), some (aI v4), some (aI v5), some (aI s0), some (aI (0 : Int32)), none]) dX12_passages_65 (by decide) rfl ?_
      refine go_iload dX12_passages_67 rfl ?_
      refine go_istore (loc2 := [some (aA v0), some (aI v1), some (aI v2), some (aI (v3 + (1 : Int32))), some (aI v4), some (aI v5), some (aI s0), some (aI (0 : Int32)), some (aI v5)]) dX12_passages_69 (by decide) rfl ?_
      refine okl_X12_passages_71 v0 v1 v2 (v3 + (1 : Int32)) v4 v5 s0 h (fun a2_7 => j_X12_passages_94 v0 v1 v2 (v3 + (1 : Int32)) v4 v5 a2_7 h K109 k) (0 : Int32) v5 ?_ H
      · intro a2_7 H
        exact okj_X12_passages_94 v0 v1 v2 (v3 + (1 : Int32)) v4 v5 a2_7 h K109 k HK109 Hk H
def b_X12_passages_8 (v0 : Nat) (v1 : Int32) (v2 : Int32) (h : Hp) (K109 : Int32 → Int32 → Option Int32) (k : Int32 → Int32 → Int32 → Option Int32) (v3 : Int32) (v4 : Int32) (v5 : Int32) : Option Int32 :=
  (gfI h v0 12 24).bind fun x1 => if x1 ≤ v5 then K109 v3 v4 else (gfR h v0 12 18).bind fun x2 => (alI h x2 ((1206 : Int32) + v5)).bind fun x3 => if ¬ x3 = v1 then j_X12_passages_42 v0 v1 v2 v3 v4 v5 (0 : Int32) h K109 k else (rc h v0 12 (m_X12_whereIs v0 v5 h)).bind fun x4 => j_X12_passages_42 v0 v1 v2 v3 v4 v5 x4 h K109 k
set_option maxRecDepth 20000 in
theorem okb_X12_passages_8 {r : Int32} (v0 : Nat) (v1 : Int32) (v2 : Int32) (h : Hp) (K109 : Int32 → Int32 → Option Int32) (k : Int32 → Int32 → Int32 → Option Int32) (v3 : Int32) (v4 : Int32) (v5 : Int32) (HK109 : ∀ (v3q : Int32) (v4q : Int32) , K109 v3q v4q = some r → Go M_X12_passages (some (aI r), h) 109 [none, none, some (aI v2), some (aI v3q), some (aI v4q), none, none, none, none] [] h) (Hk : ∀ (v3q : Int32) (v4q : Int32) (v5q : Int32), k v3q v4q v5q = some r → Go M_X12_passages (some (aI r), h) 8 [some (aA v0), some (aI v1), some (aI v2), some (aI v3q), some (aI v4q), some (aI v5q), none, none, none] [] h) (H : b_X12_passages_8 v0 v1 v2 h K109 k v3 v4 v5 = some r) : Go M_X12_passages (some (aI r), h) 8 [some (aA v0), some (aI v1), some (aI v2), some (aI v3), some (aI v4), some (aI v5), none, none, none] [] h := by
  unfold b_X12_passages_8 at H
  refine go_iload dX12_passages_8 rfl ?_
  refine go_aloadn dX12_passages_10 rfl ?_
  refine gm_getI fd_X12_253 dX12_passages_11 H (fun x1 H => ?_)
  refine go_icmp_ge (tgt := 109) dX12_passages_14 (by decide) (fun c1 => ?_) (fun c1 => ?_)
  · replace H := (gm_ite H).1 c1
    refine go_mask [false, false, true, true, true, false, false, false, false] (loc' := [none, none, some (aI v2), some (aI v3), some (aI v4), none, none, none, none]) rfl ?_
    exact HK109 v3 v4 H
  · replace H := (gm_ite H).2 c1
    refine go_aloadn dX12_passages_17 rfl ?_
    refine gm_getR fd_X12_35 dX12_passages_18 H (fun x2 H => ?_)
    refine go_sipush (v := (1206 : Int32)) dX12_passages_21 rfl ?_
    refine go_iload dX12_passages_24 rfl ?_
    refine go_iadd dX12_passages_26 ?_
    refine gm_iald dX12_passages_27 H (fun x3 H => ?_)
    refine go_iloadn dX12_passages_28 rfl ?_
    refine go_icmp_ne (tgt := 41) dX12_passages_29 (by decide) (fun c2 => ?_) (fun c2 => ?_)
    · replace H := (gm_ite H).1 c2
      refine go_iconst (v := (0 : Int32)) dX12_passages_41 rfl ?_
      exact okj_X12_passages_42 v0 v1 v2 v3 v4 v5 (0 : Int32) h K109 k HK109 Hk H
    · replace H := (gm_ite H).2 c2
      refine go_aloadn dX12_passages_32 rfl ?_
      refine go_iload dX12_passages_33 rfl ?_
      obtain ⟨c3, x4, ex4, H⟩ := gm_rc H
      refine go_callV (vs := [aI v5]) (stk := []) (o1 := (some (aI x4), h)) mk_X12_whereIs sv_X12_passages_278 cl_X12 rfl dX12_passages_35 c3 rfl rfl (Nat.le_of_ble_eq_true rfl) (Nat.le_of_ble_eq_true rfl) (ok_X12_whereIs ex4) (show Go M_X12_passages (some (aI r), h) 38 [some (aA v0), some (aI v1), some (aI v2), some (aI v3), some (aI v4), some (aI v5), none, none, none] [aI x4] h from ?_)
      refine go_goto (tgt := 42) dX12_passages_38 (by decide) ?_
      exact okj_X12_passages_42 v0 v1 v2 v3 v4 v5 x4 h K109 k HK109 Hk H
def l_X12_passages_8 (v0 : Nat) (v1 : Int32) (v2 : Int32) (h : Hp) (K109 : Int32 → Int32 → Option Int32) (v3 : Int32) (v4 : Int32) (v5 : Int32) : Option Int32 := loopK FUEL (fun (k : Int32 × Int32 × Int32 → Option Int32) (s : Int32 × Int32 × Int32) => b_X12_passages_8 v0 v1 v2 h K109 (fun v3q v4q v5q => k (v3q, v4q, v5q)) s.1 s.2.1 s.2.2) (v3, v4, v5)
theorem okl_X12_passages_8 {r : Int32} (v0 : Nat) (v1 : Int32) (v2 : Int32) (h : Hp) (K109 : Int32 → Int32 → Option Int32) (v3 : Int32) (v4 : Int32) (v5 : Int32) (HK109 : ∀ (v3q : Int32) (v4q : Int32) , K109 v3q v4q = some r → Go M_X12_passages (some (aI r), h) 109 [none, none, some (aI v2), some (aI v3q), some (aI v4q), none, none, none, none] [] h) (H : l_X12_passages_8 v0 v1 v2 h K109 v3 v4 v5 = some r) : Go M_X12_passages (some (aI r), h) 8 [some (aA v0), some (aI v1), some (aI v2), some (aI v3), some (aI v4), some (aI v5), none, none, none] [] h := by
  unfold l_X12_passages_8 at H
  exact go_loop (σ := Int32 × Int32 × Int32) (body := (fun (k : Int32 × Int32 × Int32 → Option Int32) (s : Int32 × Int32 × Int32) => b_X12_passages_8 v0 v1 v2 h K109 (fun v3q v4q v5q => k (v3q, v4q, v5q)) s.1 s.2.1 s.2.2)) (fun s => [some (aA v0), some (aI v1), some (aI v2), some (aI s.1), some (aI s.2.1), some (aI s.2.2), none, none, none]) (fun s => h) (fun k s Hk H => okb_X12_passages_8 v0 v1 v2 h K109 (fun v3q v4q v5q => k (v3q, v4q, v5q)) s.1 s.2.1 s.2.2 HK109 (fun v3q v4q v5q H => Hk (v3q, v4q, v5q) H) H) FUEL (v3, v4, v5) H
def j_X12_passages_119  (s0 : Int32) (h : Hp) : Option Int32 :=
  some s0
set_option maxRecDepth 20000 in
theorem okj_X12_passages_119 {r : Int32}  (s0 : Int32) (h : Hp) (H : j_X12_passages_119 s0 h = some r) : Go M_X12_passages (some (aI r), h) 119 [none, none, none, none, none, none, none, none, none] [aI s0] h := by
  unfold j_X12_passages_119 at H
  obtain rfl := Option.some.inj H
  exact go_ireturn dX12_passages_119 (tyI_int rfl)
def j_X12_passages_109 (v2 : Int32) (v3 : Int32) (v4 : Int32)  (h : Hp) : Option Int32 :=
  j_X12_passages_119 (if v2 = 0 then v3 else v4) h
set_option maxRecDepth 20000 in
theorem okj_X12_passages_109 {r : Int32} (v2 : Int32) (v3 : Int32) (v4 : Int32)  (h : Hp) (H : j_X12_passages_109 v2 v3 v4 h = some r) : Go M_X12_passages (some (aI r), h) 109 [none, none, some (aI v2), some (aI v3), some (aI v4), none, none, none, none] [] h := by
  unfold j_X12_passages_109 at H
  refine go_iloadn dX12_passages_109 rfl ?_
  refine go_if_eq (tgt := 118) dX12_passages_110 (by decide) (fun c1 => ?_) (fun c1 => ?_)
  · rw [if_pos c1] at H
    refine go_iloadn dX12_passages_118 rfl ?_
    refine go_mask [false, false, false, false, false, false, false, false, false] (loc' := [none, none, none, none, none, none, none, none, none]) rfl ?_
    exact okj_X12_passages_119 v3 h  H
  · rw [if_neg c1] at H
    refine go_iload dX12_passages_113 rfl ?_
    refine go_goto (tgt := 119) dX12_passages_115 (by decide) ?_
    refine go_mask [false, false, false, false, false, false, false, false, false] (loc' := [none, none, none, none, none, none, none, none, none]) rfl ?_
    exact okj_X12_passages_119 v4 h  H
def m_X12_passages (v0 : Nat) (v1 : Int32) (v2 : Int32) (h : Hp) : Option Int32 :=
  l_X12_passages_8 v0 v1 v2 h (fun a1_3 a1_4 => j_X12_passages_109 v2 a1_3 a1_4 h) (0 : Int32) (0 : Int32) (0 : Int32)
set_option maxRecDepth 20000 in
theorem ok_X12_passages {r : Int32} {v0 : Nat} {v1 : Int32} {v2 : Int32} {h : Hp} (H : m_X12_passages v0 v1 v2 h = some r) : Ev M_X12_passages [aA v0, aI v1, aI v2] h (some (aI r), h) := by
  show Go M_X12_passages (some (aI r), h) 0 [some (aA v0), some (aI v1), some (aI v2), none, none, none, none, none, none] [] h
  unfold m_X12_passages at H
  refine go_iconst (v := (0 : Int32)) dX12_passages_0 rfl ?_
  refine go_istoren (loc2 := [some (aA v0), some (aI v1), some (aI v2), some (aI (0 : Int32)), none, none, none, none, none]) dX12_passages_1 rfl (by decide) rfl ?_
  refine go_iconst (v := (0 : Int32)) dX12_passages_2 rfl ?_
  refine go_istore (loc2 := [some (aA v0), some (aI v1), some (aI v2), some (aI (0 : Int32)), some (aI (0 : Int32)), none, none, none, none]) dX12_passages_3 (by decide) rfl ?_
  refine go_iconst (v := (0 : Int32)) dX12_passages_5 rfl ?_
  refine go_istore (loc2 := [some (aA v0), some (aI v1), some (aI v2), some (aI (0 : Int32)), some (aI (0 : Int32)), some (aI (0 : Int32)), none, none, none]) dX12_passages_6 (by decide) rfl ?_
  refine okl_X12_passages_8 v0 v1 v2 h (fun a1_3 a1_4 => j_X12_passages_109 v2 a1_3 a1_4 h) (0 : Int32) (0 : Int32) (0 : Int32) ?_ H
  · intro a1_3 a1_4 H
    exact okj_X12_passages_109 v2 a1_3 a1_4 h  H
/-! X12_ones -/
def j_X12_ones_24 (v0 : Int32) (v2 : Int32) (s0 : Int32) (s1 : Int32) (h : Hp) (k : Int32 → Int32 → Option Int32) : Option Int32 :=
  k (s0 + s1) (v2 + (1 : Int32))
set_option maxRecDepth 20000 in
theorem okj_X12_ones_24 {r : Int32} (v0 : Int32) (v2 : Int32) (s0 : Int32) (s1 : Int32) (h : Hp) (k : Int32 → Int32 → Option Int32) (Hk : ∀ (v1q : Int32) (v2q : Int32), k v1q v2q = some r → Go M_X12_ones (some (aI r), h) 4 [some (aI v0), some (aI v1q), some (aI v2q)] [] h) (H : j_X12_ones_24 v0 v2 s0 s1 h k = some r) : Go M_X12_ones (some (aI r), h) 24 [some (aI v0), none, some (aI v2)] [aI s1, aI s0] h := by
  unfold j_X12_ones_24 at H
  refine go_iadd dX12_ones_24 ?_
  refine go_istoren (loc2 := [some (aI v0), some (aI (s0 + s1)), some (aI v2)]) dX12_ones_25 rfl (by decide) rfl ?_
  refine go_iinc (v := (v2 + (1 : Int32))) (loc2 := [some (aI v0), some (aI (s0 + s1)), some (aI (v2 + (1 : Int32)))]) dX12_ones_26 rfl rfl (by decide) rfl ?_
  refine go_goto (tgt := 4) dX12_ones_29 (by decide) ?_
  exact Hk (s0 + s1) (v2 + (1 : Int32)) H
def b_X12_ones_4 (v0 : Int32) (h : Hp) (k : Int32 → Int32 → Option Int32) (v1 : Int32) (v2 : Int32) : Option Int32 :=
  if (10 : Int32) ≤ v2 then (some v1) else (m_X12_has v0 v2 h).bind fun x1 => j_X12_ones_24 v0 v2 v1 (if x1 = 0 then (0 : Int32) else (1 : Int32)) h k
set_option maxRecDepth 20000 in
theorem okb_X12_ones_4 {r : Int32} (v0 : Int32) (h : Hp) (k : Int32 → Int32 → Option Int32) (v1 : Int32) (v2 : Int32) (Hk : ∀ (v1q : Int32) (v2q : Int32), k v1q v2q = some r → Go M_X12_ones (some (aI r), h) 4 [some (aI v0), some (aI v1q), some (aI v2q)] [] h) (H : b_X12_ones_4 v0 h k v1 v2 = some r) : Go M_X12_ones (some (aI r), h) 4 [some (aI v0), some (aI v1), some (aI v2)] [] h := by
  unfold b_X12_ones_4 at H
  refine go_iloadn dX12_ones_4 rfl ?_
  refine go_bipush (v := (10 : Int32)) dX12_ones_5 rfl ?_
  refine go_icmp_ge (tgt := 32) dX12_ones_7 (by decide) (fun c1 => ?_) (fun c1 => ?_)
  · replace H := (gm_ite H).1 c1
    refine go_iloadn dX12_ones_32 rfl ?_
    obtain rfl := Option.some.inj H
    exact go_ireturn dX12_ones_33 (tyI_int rfl)
  · replace H := (gm_ite H).2 c1
    refine go_iloadn dX12_ones_10 rfl ?_
    refine go_iloadn dX12_ones_11 rfl ?_
    refine go_iloadn dX12_ones_12 rfl ?_
    obtain ⟨x1, ex1, H⟩ := bind_some H
    refine go_callS (vs := [aI v0, aI v2]) (stk := [aI v1]) (o1 := (some (aI x1), h)) mk_X12_has ss_X12_ones_64 dX12_ones_13 rfl rfl (Nat.le_of_ble_eq_true rfl) (Nat.le_of_ble_eq_true rfl) (ok_X12_has ex1) (show Go M_X12_ones (some (aI r), h) 16 [some (aI v0), some (aI v1), some (aI v2)] [aI x1, aI v1] h from ?_)
    refine go_if_eq (tgt := 23) dX12_ones_16 (by decide) (fun c3 => ?_) (fun c3 => ?_)
    · rw [if_pos c3] at H
      refine go_iconst (v := (0 : Int32)) dX12_ones_23 rfl ?_
      refine go_mask [true, false, true] (loc' := [some (aI v0), none, some (aI v2)]) rfl ?_
      exact okj_X12_ones_24 v0 v2 v1 (0 : Int32) h k Hk H
    · rw [if_neg c3] at H
      refine go_iconst (v := (1 : Int32)) dX12_ones_19 rfl ?_
      refine go_goto (tgt := 24) dX12_ones_20 (by decide) ?_
      refine go_mask [true, false, true] (loc' := [some (aI v0), none, some (aI v2)]) rfl ?_
      exact okj_X12_ones_24 v0 v2 v1 (1 : Int32) h k Hk H
def l_X12_ones_4 (v0 : Int32) (h : Hp) (v1 : Int32) (v2 : Int32) : Option Int32 := loopK FUEL (fun (k : Int32 × Int32 → Option Int32) (s : Int32 × Int32) => b_X12_ones_4 v0 h (fun v1q v2q => k (v1q, v2q)) s.1 s.2) (v1, v2)
theorem okl_X12_ones_4 {r : Int32} (v0 : Int32) (h : Hp) (v1 : Int32) (v2 : Int32) (H : l_X12_ones_4 v0 h v1 v2 = some r) : Go M_X12_ones (some (aI r), h) 4 [some (aI v0), some (aI v1), some (aI v2)] [] h := by
  unfold l_X12_ones_4 at H
  exact go_loop (σ := Int32 × Int32) (body := (fun (k : Int32 × Int32 → Option Int32) (s : Int32 × Int32) => b_X12_ones_4 v0 h (fun v1q v2q => k (v1q, v2q)) s.1 s.2)) (fun s => [some (aI v0), some (aI s.1), some (aI s.2)]) (fun s => h) (fun k s Hk H => okb_X12_ones_4 v0 h (fun v1q v2q => k (v1q, v2q)) s.1 s.2  (fun v1q v2q H => Hk (v1q, v2q) H) H) FUEL (v1, v2) H
def m_X12_ones (v0 : Int32) (h : Hp) : Option Int32 :=
  l_X12_ones_4 v0 h (0 : Int32) (0 : Int32)
set_option maxRecDepth 20000 in
theorem ok_X12_ones {r : Int32} {v0 : Int32} {h : Hp} (H : m_X12_ones v0 h = some r) : Ev M_X12_ones [aI v0] h (some (aI r), h) := by
  show Go M_X12_ones (some (aI r), h) 0 [some (aI v0), none, none] [] h
  unfold m_X12_ones at H
  refine go_iconst (v := (0 : Int32)) dX12_ones_0 rfl ?_
  refine go_istoren (loc2 := [some (aI v0), some (aI (0 : Int32)), none]) dX12_ones_1 rfl (by decide) rfl ?_
  refine go_iconst (v := (0 : Int32)) dX12_ones_2 rfl ?_
  refine go_istoren (loc2 := [some (aI v0), some (aI (0 : Int32)), some (aI (0 : Int32))]) dX12_ones_3 rfl (by decide) rfl ?_
  exact okl_X12_ones_4 v0 h (0 : Int32) (0 : Int32) H
/-! X12_keptIn -/
def j_X12_keptIn_48 (v0 : Nat) (v1 : Int32) (v3 : Int32) (s0 : Int32) (s1 : Int32) (h : Hp) (k : Int32 → Int32 → Option Int32) : Option Int32 :=
  k (s0 + s1) (v3 + (1 : Int32))
set_option maxRecDepth 20000 in
theorem okj_X12_keptIn_48 {r : Int32} (v0 : Nat) (v1 : Int32) (v3 : Int32) (s0 : Int32) (s1 : Int32) (h : Hp) (k : Int32 → Int32 → Option Int32) (Hk : ∀ (v2q : Int32) (v3q : Int32), k v2q v3q = some r → Go M_X12_keptIn (some (aI r), h) 4 [some (aA v0), some (aI v1), some (aI v2q), some (aI v3q)] [] h) (H : j_X12_keptIn_48 v0 v1 v3 s0 s1 h k = some r) : Go M_X12_keptIn (some (aI r), h) 48 [some (aA v0), some (aI v1), none, some (aI v3)] [aI s1, aI s0] h := by
  unfold j_X12_keptIn_48 at H
  refine go_iadd dX12_keptIn_48 ?_
  refine go_istoren (loc2 := [some (aA v0), some (aI v1), some (aI (s0 + s1)), some (aI v3)]) dX12_keptIn_49 rfl (by decide) rfl ?_
  refine go_iinc (v := (v3 + (1 : Int32))) (loc2 := [some (aA v0), some (aI v1), some (aI (s0 + s1)), some (aI (v3 + (1 : Int32)))]) dX12_keptIn_50 rfl rfl (by decide) rfl ?_
  refine go_goto (tgt := 4) dX12_keptIn_53 (by decide) ?_
  exact Hk (s0 + s1) (v3 + (1 : Int32)) H
def b_X12_keptIn_4 (v0 : Nat) (v1 : Int32) (h : Hp) (k : Int32 → Int32 → Option Int32) (v2 : Int32) (v3 : Int32) : Option Int32 :=
  (gfI h v0 12 24).bind fun x1 => if x1 ≤ v3 then (some v2) else (gfR h v0 12 18).bind fun x2 => (alI h x2 ((1206 : Int32) + v3)).bind fun x3 => if ¬ x3 = v1 then j_X12_keptIn_48 v0 v1 v3 v2 (0 : Int32) h k else (rc h v0 12 (m_X12_whereIs v0 v3 h)).bind fun x4 => (m_X12_ones x4 h).bind fun x5 => (rc h v0 12 (m_X12_versions v0 v1 h)).bind fun x6 => j_X12_keptIn_48 v0 v1 v3 v2 (if ¬ x5 = x6 then (0 : Int32) else (1 : Int32)) h k
set_option maxRecDepth 20000 in
theorem okb_X12_keptIn_4 {r : Int32} (v0 : Nat) (v1 : Int32) (h : Hp) (k : Int32 → Int32 → Option Int32) (v2 : Int32) (v3 : Int32) (Hk : ∀ (v2q : Int32) (v3q : Int32), k v2q v3q = some r → Go M_X12_keptIn (some (aI r), h) 4 [some (aA v0), some (aI v1), some (aI v2q), some (aI v3q)] [] h) (H : b_X12_keptIn_4 v0 v1 h k v2 v3 = some r) : Go M_X12_keptIn (some (aI r), h) 4 [some (aA v0), some (aI v1), some (aI v2), some (aI v3)] [] h := by
  unfold b_X12_keptIn_4 at H
  refine go_iloadn dX12_keptIn_4 rfl ?_
  refine go_aloadn dX12_keptIn_5 rfl ?_
  refine gm_getI fd_X12_253 dX12_keptIn_6 H (fun x1 H => ?_)
  refine go_icmp_ge (tgt := 56) dX12_keptIn_9 (by decide) (fun c1 => ?_) (fun c1 => ?_)
  · replace H := (gm_ite H).1 c1
    refine go_iloadn dX12_keptIn_56 rfl ?_
    obtain rfl := Option.some.inj H
    exact go_ireturn dX12_keptIn_57 (tyI_int rfl)
  · replace H := (gm_ite H).2 c1
    refine go_iloadn dX12_keptIn_12 rfl ?_
    refine go_aloadn dX12_keptIn_13 rfl ?_
    refine gm_getR fd_X12_35 dX12_keptIn_14 H (fun x2 H => ?_)
    refine go_sipush (v := (1206 : Int32)) dX12_keptIn_17 rfl ?_
    refine go_iloadn dX12_keptIn_20 rfl ?_
    refine go_iadd dX12_keptIn_21 ?_
    refine gm_iald dX12_keptIn_22 H (fun x3 H => ?_)
    refine go_iloadn dX12_keptIn_23 rfl ?_
    refine go_icmp_ne (tgt := 47) dX12_keptIn_24 (by decide) (fun c2 => ?_) (fun c2 => ?_)
    · replace H := (gm_ite H).1 c2
      refine go_iconst (v := (0 : Int32)) dX12_keptIn_47 rfl ?_
      refine go_mask [true, true, false, true] (loc' := [some (aA v0), some (aI v1), none, some (aI v3)]) rfl ?_
      exact okj_X12_keptIn_48 v0 v1 v3 v2 (0 : Int32) h k Hk H
    · replace H := (gm_ite H).2 c2
      refine go_aloadn dX12_keptIn_27 rfl ?_
      refine go_iloadn dX12_keptIn_28 rfl ?_
      obtain ⟨c3, x4, ex4, H⟩ := gm_rc H
      refine go_callV (vs := [aI v3]) (stk := [aI v2]) (o1 := (some (aI x4), h)) mk_X12_whereIs sv_X12_keptIn_278 cl_X12 rfl dX12_keptIn_29 c3 rfl rfl (Nat.le_of_ble_eq_true rfl) (Nat.le_of_ble_eq_true rfl) (ok_X12_whereIs ex4) (show Go M_X12_keptIn (some (aI r), h) 32 [some (aA v0), some (aI v1), some (aI v2), some (aI v3)] [aI x4, aI v2] h from ?_)
      obtain ⟨x5, ex5, H⟩ := bind_some H
      refine go_callS (vs := [aI x4]) (stk := [aI v2]) (o1 := (some (aI x5), h)) mk_X12_ones ss_X12_keptIn_300 dX12_keptIn_32 rfl rfl (Nat.le_of_ble_eq_true rfl) (Nat.le_of_ble_eq_true rfl) (ok_X12_ones ex5) (show Go M_X12_keptIn (some (aI r), h) 35 [some (aA v0), some (aI v1), some (aI v2), some (aI v3)] [aI x5, aI v2] h from ?_)
      refine go_aloadn dX12_keptIn_35 rfl ?_
      refine go_iloadn dX12_keptIn_36 rfl ?_
      obtain ⟨c5, x6, ex6, H⟩ := gm_rc H
      refine go_callV (vs := [aI v1]) (stk := [aI x5, aI v2]) (o1 := (some (aI x6), h)) mk_X12_versions sv_X12_keptIn_259 cl_X12 rfl dX12_keptIn_37 c5 rfl rfl (Nat.le_of_ble_eq_true rfl) (Nat.le_of_ble_eq_true rfl) (ok_X12_versions ex6) (show Go M_X12_keptIn (some (aI r), h) 40 [some (aA v0), some (aI v1), some (aI v2), some (aI v3)] [aI x6, aI x5, aI v2] h from ?_)
      refine go_icmp_ne (tgt := 47) dX12_keptIn_40 (by decide) (fun c6 => ?_) (fun c6 => ?_)
      · rw [if_pos c6] at H
        refine go_iconst (v := (0 : Int32)) dX12_keptIn_47 rfl ?_
        refine go_mask [true, true, false, true] (loc' := [some (aA v0), some (aI v1), none, some (aI v3)]) rfl ?_
        exact okj_X12_keptIn_48 v0 v1 v3 v2 (0 : Int32) h k Hk H
      · rw [if_neg c6] at H
        refine go_iconst (v := (1 : Int32)) dX12_keptIn_43 rfl ?_
        refine go_goto (tgt := 48) dX12_keptIn_44 (by decide) ?_
        refine go_mask [true, true, false, true] (loc' := [some (aA v0), some (aI v1), none, some (aI v3)]) rfl ?_
        exact okj_X12_keptIn_48 v0 v1 v3 v2 (1 : Int32) h k Hk H
def l_X12_keptIn_4 (v0 : Nat) (v1 : Int32) (h : Hp) (v2 : Int32) (v3 : Int32) : Option Int32 := loopK FUEL (fun (k : Int32 × Int32 → Option Int32) (s : Int32 × Int32) => b_X12_keptIn_4 v0 v1 h (fun v2q v3q => k (v2q, v3q)) s.1 s.2) (v2, v3)
theorem okl_X12_keptIn_4 {r : Int32} (v0 : Nat) (v1 : Int32) (h : Hp) (v2 : Int32) (v3 : Int32) (H : l_X12_keptIn_4 v0 v1 h v2 v3 = some r) : Go M_X12_keptIn (some (aI r), h) 4 [some (aA v0), some (aI v1), some (aI v2), some (aI v3)] [] h := by
  unfold l_X12_keptIn_4 at H
  exact go_loop (σ := Int32 × Int32) (body := (fun (k : Int32 × Int32 → Option Int32) (s : Int32 × Int32) => b_X12_keptIn_4 v0 v1 h (fun v2q v3q => k (v2q, v3q)) s.1 s.2)) (fun s => [some (aA v0), some (aI v1), some (aI s.1), some (aI s.2)]) (fun s => h) (fun k s Hk H => okb_X12_keptIn_4 v0 v1 h (fun v2q v3q => k (v2q, v3q)) s.1 s.2  (fun v2q v3q H => Hk (v2q, v3q) H) H) FUEL (v2, v3) H
def m_X12_keptIn (v0 : Nat) (v1 : Int32) (h : Hp) : Option Int32 :=
  l_X12_keptIn_4 v0 v1 h (0 : Int32) (0 : Int32)
set_option maxRecDepth 20000 in
theorem ok_X12_keptIn {r : Int32} {v0 : Nat} {v1 : Int32} {h : Hp} (H : m_X12_keptIn v0 v1 h = some r) : Ev M_X12_keptIn [aA v0, aI v1] h (some (aI r), h) := by
  show Go M_X12_keptIn (some (aI r), h) 0 [some (aA v0), some (aI v1), none, none] [] h
  unfold m_X12_keptIn at H
  refine go_iconst (v := (0 : Int32)) dX12_keptIn_0 rfl ?_
  refine go_istoren (loc2 := [some (aA v0), some (aI v1), some (aI (0 : Int32)), none]) dX12_keptIn_1 rfl (by decide) rfl ?_
  refine go_iconst (v := (0 : Int32)) dX12_keptIn_2 rfl ?_
  refine go_istoren (loc2 := [some (aA v0), some (aI v1), some (aI (0 : Int32)), some (aI (0 : Int32))]) dX12_keptIn_3 rfl (by decide) rfl ?_
  exact okl_X12_keptIn_4 v0 v1 h (0 : Int32) (0 : Int32) H
/-! X12_wordOf -/
def m_X12_wordOf (v0 : Nat) (v1 : Int32) (h : Hp) : Option Int32 :=
  (gfR h v0 12 18).bind fun x1 => (alI h x1 ((886 : Int32) + v1)).bind fun x2 => some x2
set_option maxRecDepth 20000 in
theorem ok_X12_wordOf {r : Int32} {v0 : Nat} {v1 : Int32} {h : Hp} (H : m_X12_wordOf v0 v1 h = some r) : Ev M_X12_wordOf [aA v0, aI v1] h (some (aI r), h) := by
  show Go M_X12_wordOf (some (aI r), h) 0 [some (aA v0), some (aI v1)] [] h
  unfold m_X12_wordOf at H
  refine go_aloadn dX12_wordOf_0 rfl ?_
  refine gm_getR fd_X12_35 dX12_wordOf_1 H (fun x1 H => ?_)
  refine go_sipush (v := (886 : Int32)) dX12_wordOf_4 rfl ?_
  refine go_iloadn dX12_wordOf_7 rfl ?_
  refine go_iadd dX12_wordOf_8 ?_
  refine gm_iald dX12_wordOf_9 H (fun x2 H => ?_)
  obtain rfl := Option.some.inj H
  exact go_ireturn dX12_wordOf_10 (tyI_int rfl)
/-! X12_wordAt -/
def m_X12_wordAt (v0 : Nat) (v1 : Int32) (v2 : Int32) (v3 : Int32) (h : Hp) : Option Int32 :=
  (rc h v0 12 (m_X12_tokenAt v0 v1 v2 v3 h)).bind fun x1 => (rc h v0 12 (m_X12_wordOf v0 x1 h)).bind fun x2 => some x2
set_option maxRecDepth 20000 in
theorem ok_X12_wordAt {r : Int32} {v0 : Nat} {v1 : Int32} {v2 : Int32} {v3 : Int32} {h : Hp} (H : m_X12_wordAt v0 v1 v2 v3 h = some r) : Ev M_X12_wordAt [aA v0, aI v1, aI v2, aI v3] h (some (aI r), h) := by
  show Go M_X12_wordAt (some (aI r), h) 0 [some (aA v0), some (aI v1), some (aI v2), some (aI v3)] [] h
  unfold m_X12_wordAt at H
  refine go_aloadn dX12_wordAt_0 rfl ?_
  refine go_aloadn dX12_wordAt_1 rfl ?_
  refine go_iloadn dX12_wordAt_2 rfl ?_
  refine go_iloadn dX12_wordAt_3 rfl ?_
  refine go_iloadn dX12_wordAt_4 rfl ?_
  obtain ⟨c1, x1, ex1, H⟩ := gm_rc H
  refine go_callV (vs := [aI v1, aI v2, aI v3]) (stk := [aA v0]) (o1 := (some (aI x1), h)) mk_X12_tokenAt sv_X12_wordAt_262 cl_X12 rfl dX12_wordAt_5 c1 rfl rfl (Nat.le_of_ble_eq_true rfl) (Nat.le_of_ble_eq_true rfl) (ok_X12_tokenAt ex1) (show Go M_X12_wordAt (some (aI r), h) 8 [some (aA v0), some (aI v1), some (aI v2), some (aI v3)] [aI x1, aA v0] h from ?_)
  obtain ⟨c2, x2, ex2, H⟩ := gm_rc H
  refine go_callV (vs := [aI x1]) (stk := []) (o1 := (some (aI x2), h)) mk_X12_wordOf sv_X12_wordAt_266 cl_X12 rfl dX12_wordAt_8 c2 rfl rfl (Nat.le_of_ble_eq_true rfl) (Nat.le_of_ble_eq_true rfl) (ok_X12_wordOf ex2) (show Go M_X12_wordAt (some (aI r), h) 11 [some (aA v0), some (aI v1), some (aI v2), some (aI v3)] [aI x2] h from ?_)
  obtain rfl := Option.some.inj H
  exact go_ireturn dX12_wordAt_11 (tyI_int rfl)
/-! X12_areAlike -/
def j_X12_areAlike_67 (v0 : Nat) (v1 : Int32) (v2 : Int32) (v3 : Int32) (v4 : Int32) (v6 : Int32) (s0 : Int32) (h : Hp) (K75 : Int32 → Option Int32) (k : Int32 → Int32 → Option Int32) : Option Int32 :=
  k s0 (v6 + (1 : Int32))
set_option maxRecDepth 20000 in
theorem okj_X12_areAlike_67 {r : Int32} (v0 : Nat) (v1 : Int32) (v2 : Int32) (v3 : Int32) (v4 : Int32) (v6 : Int32) (s0 : Int32) (h : Hp) (K75 : Int32 → Option Int32) (k : Int32 → Int32 → Option Int32) (HK75 : ∀ (v5q : Int32) , K75 v5q = some r → Go M_X12_areAlike (some (aI r), h) 75 [none, none, none, none, none, some (aI v5q), none] [] h) (Hk : ∀ (v5q : Int32) (v6q : Int32), k v5q v6q = some r → Go M_X12_areAlike (some (aI r), h) 26 [some (aA v0), some (aI v1), some (aI v2), some (aI v3), some (aI v4), some (aI v5q), some (aI v6q)] [] h) (H : j_X12_areAlike_67 v0 v1 v2 v3 v4 v6 s0 h K75 k = some r) : Go M_X12_areAlike (some (aI r), h) 67 [some (aA v0), some (aI v1), some (aI v2), some (aI v3), some (aI v4), none, some (aI v6)] [aI s0] h := by
  unfold j_X12_areAlike_67 at H
  refine go_istore (loc2 := [some (aA v0), some (aI v1), some (aI v2), some (aI v3), some (aI v4), some (aI s0), some (aI v6)]) dX12_areAlike_67 (by decide) rfl ?_
  refine go_iinc (v := (v6 + (1 : Int32))) (loc2 := [some (aA v0), some (aI v1), some (aI v2), some (aI v3), some (aI v4), some (aI s0), some (aI (v6 + (1 : Int32)))]) dX12_areAlike_69 rfl rfl (by decide) rfl ?_
  refine go_goto (tgt := 26) dX12_areAlike_72 (by decide) ?_
  exact Hk s0 (v6 + (1 : Int32)) H
def b_X12_areAlike_26 (v0 : Nat) (v1 : Int32) (v2 : Int32) (v3 : Int32) (v4 : Int32) (h : Hp) (K75 : Int32 → Option Int32) (k : Int32 → Int32 → Option Int32) (v5 : Int32) (v6 : Int32) : Option Int32 :=
  (rc h v0 12 (m_X12_longOf v0 v1 v2 h)).bind fun x1 => if x1 ≤ v6 then K75 v5 else if v5 = 0 then K75 v5 else (rc h v0 12 (m_X12_wordAt v0 v1 v2 v6 h)).bind fun x2 => (rc h v0 12 (m_X12_wordAt v0 v3 v4 v6 h)).bind fun x3 => j_X12_areAlike_67 v0 v1 v2 v3 v4 v6 (if ¬ x2 = x3 then (0 : Int32) else (1 : Int32)) h K75 k
set_option maxRecDepth 20000 in
theorem okb_X12_areAlike_26 {r : Int32} (v0 : Nat) (v1 : Int32) (v2 : Int32) (v3 : Int32) (v4 : Int32) (h : Hp) (K75 : Int32 → Option Int32) (k : Int32 → Int32 → Option Int32) (v5 : Int32) (v6 : Int32) (HK75 : ∀ (v5q : Int32) , K75 v5q = some r → Go M_X12_areAlike (some (aI r), h) 75 [none, none, none, none, none, some (aI v5q), none] [] h) (Hk : ∀ (v5q : Int32) (v6q : Int32), k v5q v6q = some r → Go M_X12_areAlike (some (aI r), h) 26 [some (aA v0), some (aI v1), some (aI v2), some (aI v3), some (aI v4), some (aI v5q), some (aI v6q)] [] h) (H : b_X12_areAlike_26 v0 v1 v2 v3 v4 h K75 k v5 v6 = some r) : Go M_X12_areAlike (some (aI r), h) 26 [some (aA v0), some (aI v1), some (aI v2), some (aI v3), some (aI v4), some (aI v5), some (aI v6)] [] h := by
  unfold b_X12_areAlike_26 at H
  refine go_iload dX12_areAlike_26 rfl ?_
  refine go_aloadn dX12_areAlike_28 rfl ?_
  refine go_iloadn dX12_areAlike_29 rfl ?_
  refine go_iloadn dX12_areAlike_30 rfl ?_
  obtain ⟨c1, x1, ex1, H⟩ := gm_rc H
  refine go_callV (vs := [aI v1, aI v2]) (stk := [aI v6]) (o1 := (some (aI x1), h)) mk_X12_longOf sv_X12_areAlike_269 cl_X12 rfl dX12_areAlike_31 c1 rfl rfl (Nat.le_of_ble_eq_true rfl) (Nat.le_of_ble_eq_true rfl) (ok_X12_longOf ex1) (show Go M_X12_areAlike (some (aI r), h) 34 [some (aA v0), some (aI v1), some (aI v2), some (aI v3), some (aI v4), some (aI v5), some (aI v6)] [aI x1, aI v6] h from ?_)
  refine go_icmp_ge (tgt := 75) dX12_areAlike_34 (by decide) (fun c2 => ?_) (fun c2 => ?_)
  · replace H := (gm_ite H).1 c2
    refine go_mask [false, false, false, false, false, true, false] (loc' := [none, none, none, none, none, some (aI v5), none]) rfl ?_
    exact HK75 v5 H
  · replace H := (gm_ite H).2 c2
    refine go_iload dX12_areAlike_37 rfl ?_
    refine go_if_eq (tgt := 75) dX12_areAlike_39 (by decide) (fun c3 => ?_) (fun c3 => ?_)
    · replace H := (gm_ite H).1 c3
      refine go_mask [false, false, false, false, false, true, false] (loc' := [none, none, none, none, none, some (aI v5), none]) rfl ?_
      exact HK75 v5 H
    · replace H := (gm_ite H).2 c3
      refine go_aloadn dX12_areAlike_42 rfl ?_
      refine go_iloadn dX12_areAlike_43 rfl ?_
      refine go_iloadn dX12_areAlike_44 rfl ?_
      refine go_iload dX12_areAlike_45 rfl ?_
      obtain ⟨c4, x2, ex2, H⟩ := gm_rc H
      refine go_callV (vs := [aI v1, aI v2, aI v6]) (stk := []) (o1 := (some (aI x2), h)) mk_X12_wordAt sv_X12_areAlike_275 cl_X12 rfl dX12_areAlike_47 c4 rfl rfl (Nat.le_of_ble_eq_true rfl) (Nat.le_of_ble_eq_true rfl) (ok_X12_wordAt ex2) (show Go M_X12_areAlike (some (aI r), h) 50 [some (aA v0), some (aI v1), some (aI v2), some (aI v3), some (aI v4), some (aI v5), some (aI v6)] [aI x2] h from ?_)
      refine go_aloadn dX12_areAlike_50 rfl ?_
      refine go_iloadn dX12_areAlike_51 rfl ?_
      refine go_iload dX12_areAlike_52 rfl ?_
      refine go_iload dX12_areAlike_54 rfl ?_
      obtain ⟨c5, x3, ex3, H⟩ := gm_rc H
      refine go_callV (vs := [aI v3, aI v4, aI v6]) (stk := [aI x2]) (o1 := (some (aI x3), h)) mk_X12_wordAt sv_X12_areAlike_275 cl_X12 rfl dX12_areAlike_56 c5 rfl rfl (Nat.le_of_ble_eq_true rfl) (Nat.le_of_ble_eq_true rfl) (ok_X12_wordAt ex3) (show Go M_X12_areAlike (some (aI r), h) 59 [some (aA v0), some (aI v1), some (aI v2), some (aI v3), some (aI v4), some (aI v5), some (aI v6)] [aI x3, aI x2] h from ?_)
      refine go_icmp_ne (tgt := 66) dX12_areAlike_59 (by decide) (fun c6 => ?_) (fun c6 => ?_)
      · rw [if_pos c6] at H
        refine go_iconst (v := (0 : Int32)) dX12_areAlike_66 rfl ?_
        refine go_mask [true, true, true, true, true, false, true] (loc' := [some (aA v0), some (aI v1), some (aI v2), some (aI v3), some (aI v4), none, some (aI v6)]) rfl ?_
        exact okj_X12_areAlike_67 v0 v1 v2 v3 v4 v6 (0 : Int32) h K75 k HK75 Hk H
      · rw [if_neg c6] at H
        refine go_iconst (v := (1 : Int32)) dX12_areAlike_62 rfl ?_
        refine go_goto (tgt := 67) dX12_areAlike_63 (by decide) ?_
        refine go_mask [true, true, true, true, true, false, true] (loc' := [some (aA v0), some (aI v1), some (aI v2), some (aI v3), some (aI v4), none, some (aI v6)]) rfl ?_
        exact okj_X12_areAlike_67 v0 v1 v2 v3 v4 v6 (1 : Int32) h K75 k HK75 Hk H
def l_X12_areAlike_26 (v0 : Nat) (v1 : Int32) (v2 : Int32) (v3 : Int32) (v4 : Int32) (h : Hp) (K75 : Int32 → Option Int32) (v5 : Int32) (v6 : Int32) : Option Int32 := loopK FUEL (fun (k : Int32 × Int32 → Option Int32) (s : Int32 × Int32) => b_X12_areAlike_26 v0 v1 v2 v3 v4 h K75 (fun v5q v6q => k (v5q, v6q)) s.1 s.2) (v5, v6)
theorem okl_X12_areAlike_26 {r : Int32} (v0 : Nat) (v1 : Int32) (v2 : Int32) (v3 : Int32) (v4 : Int32) (h : Hp) (K75 : Int32 → Option Int32) (v5 : Int32) (v6 : Int32) (HK75 : ∀ (v5q : Int32) , K75 v5q = some r → Go M_X12_areAlike (some (aI r), h) 75 [none, none, none, none, none, some (aI v5q), none] [] h) (H : l_X12_areAlike_26 v0 v1 v2 v3 v4 h K75 v5 v6 = some r) : Go M_X12_areAlike (some (aI r), h) 26 [some (aA v0), some (aI v1), some (aI v2), some (aI v3), some (aI v4), some (aI v5), some (aI v6)] [] h := by
  unfold l_X12_areAlike_26 at H
  exact go_loop (σ := Int32 × Int32) (body := (fun (k : Int32 × Int32 → Option Int32) (s : Int32 × Int32) => b_X12_areAlike_26 v0 v1 v2 v3 v4 h K75 (fun v5q v6q => k (v5q, v6q)) s.1 s.2)) (fun s => [some (aA v0), some (aI v1), some (aI v2), some (aI v3), some (aI v4), some (aI s.1), some (aI s.2)]) (fun s => h) (fun k s Hk H => okb_X12_areAlike_26 v0 v1 v2 v3 v4 h K75 (fun v5q v6q => k (v5q, v6q)) s.1 s.2 HK75 (fun v5q v6q H => Hk (v5q, v6q) H) H) FUEL (v5, v6) H
def j_X12_areAlike_75 (v5 : Int32)  (h : Hp) : Option Int32 :=
  (zb v5).bind fun x1 => some x1
set_option maxRecDepth 20000 in
theorem okj_X12_areAlike_75 {r : Int32} (v5 : Int32)  (h : Hp) (H : j_X12_areAlike_75 v5 h = some r) : Go M_X12_areAlike (some (aI r), h) 75 [none, none, none, none, none, some (aI v5), none] [] h := by
  unfold j_X12_areAlike_75 at H
  refine go_iload dX12_areAlike_75 rfl ?_
  obtain ⟨hz, H⟩ := gm_zb H
  obtain rfl := Option.some.inj H
  exact go_ireturn (x := v5) dX12_areAlike_77 (tyI_bool rfl hz)
def j_X12_areAlike_21 (v0 : Nat) (v1 : Int32) (v2 : Int32) (v3 : Int32) (v4 : Int32) (s0 : Int32) (h : Hp) : Option Int32 :=
  l_X12_areAlike_26 v0 v1 v2 v3 v4 h (fun a1_5 => j_X12_areAlike_75 a1_5 h) s0 (0 : Int32)
set_option maxRecDepth 20000 in
theorem okj_X12_areAlike_21 {r : Int32} (v0 : Nat) (v1 : Int32) (v2 : Int32) (v3 : Int32) (v4 : Int32) (s0 : Int32) (h : Hp) (H : j_X12_areAlike_21 v0 v1 v2 v3 v4 s0 h = some r) : Go M_X12_areAlike (some (aI r), h) 21 [some (aA v0), some (aI v1), some (aI v2), some (aI v3), some (aI v4), none, none] [aI s0] h := by
  unfold j_X12_areAlike_21 at H
  refine go_istore (loc2 := [some (aA v0), some (aI v1), some (aI v2), some (aI v3), some (aI v4), some (aI s0), none]) dX12_areAlike_21 (by decide) rfl ?_
  refine go_iconst (v := (0 : Int32)) dX12_areAlike_23 rfl ?_
  refine go_istore (loc2 := [some (aA v0), some (aI v1), some (aI v2), some (aI v3), some (aI v4), some (aI s0), some (aI (0 : Int32))]) dX12_areAlike_24 (by decide) rfl ?_
  refine okl_X12_areAlike_26 v0 v1 v2 v3 v4 h (fun a1_5 => j_X12_areAlike_75 a1_5 h) s0 (0 : Int32) ?_ H
  · intro a1_5 H
    exact okj_X12_areAlike_75 a1_5 h  H
def m_X12_areAlike (v0 : Nat) (v1 : Int32) (v2 : Int32) (v3 : Int32) (v4 : Int32) (h : Hp) : Option Int32 :=
  (rc h v0 12 (m_X12_longOf v0 v1 v2 h)).bind fun x1 => (rc h v0 12 (m_X12_longOf v0 v3 v4 h)).bind fun x2 => j_X12_areAlike_21 v0 v1 v2 v3 v4 (if ¬ x1 = x2 then (0 : Int32) else (1 : Int32)) h
set_option maxRecDepth 20000 in
theorem ok_X12_areAlike {r : Int32} {v0 : Nat} {v1 : Int32} {v2 : Int32} {v3 : Int32} {v4 : Int32} {h : Hp} (H : m_X12_areAlike v0 v1 v2 v3 v4 h = some r) : Ev M_X12_areAlike [aA v0, aI v1, aI v2, aI v3, aI v4] h (some (aI r), h) := by
  show Go M_X12_areAlike (some (aI r), h) 0 [some (aA v0), some (aI v1), some (aI v2), some (aI v3), some (aI v4), none, none] [] h
  unfold m_X12_areAlike at H
  refine go_aloadn dX12_areAlike_0 rfl ?_
  refine go_iloadn dX12_areAlike_1 rfl ?_
  refine go_iloadn dX12_areAlike_2 rfl ?_
  obtain ⟨c1, x1, ex1, H⟩ := gm_rc H
  refine go_callV (vs := [aI v1, aI v2]) (stk := []) (o1 := (some (aI x1), h)) mk_X12_longOf sv_X12_areAlike_269 cl_X12 rfl dX12_areAlike_3 c1 rfl rfl (Nat.le_of_ble_eq_true rfl) (Nat.le_of_ble_eq_true rfl) (ok_X12_longOf ex1) (show Go M_X12_areAlike (some (aI r), h) 6 [some (aA v0), some (aI v1), some (aI v2), some (aI v3), some (aI v4), none, none] [aI x1] h from ?_)
  refine go_aloadn dX12_areAlike_6 rfl ?_
  refine go_iloadn dX12_areAlike_7 rfl ?_
  refine go_iload dX12_areAlike_8 rfl ?_
  obtain ⟨c2, x2, ex2, H⟩ := gm_rc H
  refine go_callV (vs := [aI v3, aI v4]) (stk := [aI x1]) (o1 := (some (aI x2), h)) mk_X12_longOf sv_X12_areAlike_269 cl_X12 rfl dX12_areAlike_10 c2 rfl rfl (Nat.le_of_ble_eq_true rfl) (Nat.le_of_ble_eq_true rfl) (ok_X12_longOf ex2) (show Go M_X12_areAlike (some (aI r), h) 13 [some (aA v0), some (aI v1), some (aI v2), some (aI v3), some (aI v4), none, none] [aI x2, aI x1] h from ?_)
  refine go_icmp_ne (tgt := 20) dX12_areAlike_13 (by decide) (fun c3 => ?_) (fun c3 => ?_)
  · rw [if_pos c3] at H
    refine go_iconst (v := (0 : Int32)) dX12_areAlike_20 rfl ?_
    exact okj_X12_areAlike_21 v0 v1 v2 v3 v4 (0 : Int32) h  H
  · rw [if_neg c3] at H
    refine go_iconst (v := (1 : Int32)) dX12_areAlike_16 rfl ?_
    refine go_goto (tgt := 21) dX12_areAlike_17 (by decide) ?_
    exact okj_X12_areAlike_21 v0 v1 v2 v3 v4 (1 : Int32) h  H
/-! X12_returns -/
def j_X12_returns_47 (v0 : Nat) (v1 : Int32) (v2 : Int32) (v3 : Int32) (v5 : Int32) (s0 : Int32) (h : Hp) (K55 : Int32 → Option Int32) (k : Int32 → Int32 → Option Int32) : Option Int32 :=
  k s0 (v5 + (1 : Int32))
set_option maxRecDepth 20000 in
theorem okj_X12_returns_47 {r : Int32} (v0 : Nat) (v1 : Int32) (v2 : Int32) (v3 : Int32) (v5 : Int32) (s0 : Int32) (h : Hp) (K55 : Int32 → Option Int32) (k : Int32 → Int32 → Option Int32) (HK55 : ∀ (v4q : Int32) , K55 v4q = some r → Go M_X12_returns (some (aI r), h) 55 [some (aA v0), some (aI v1), some (aI v2), some (aI v3), some (aI v4q), none] [] h) (Hk : ∀ (v4q : Int32) (v5q : Int32), k v4q v5q = some r → Go M_X12_returns (some (aI r), h) 19 [some (aA v0), some (aI v1), some (aI v2), some (aI v3), some (aI v4q), some (aI v5q)] [] h) (H : j_X12_returns_47 v0 v1 v2 v3 v5 s0 h K55 k = some r) : Go M_X12_returns (some (aI r), h) 47 [some (aA v0), some (aI v1), some (aI v2), some (aI v3), none, some (aI v5)] [aI s0] h := by
  unfold j_X12_returns_47 at H
  refine go_istore (loc2 := [some (aA v0), some (aI v1), some (aI v2), some (aI v3), some (aI s0), some (aI v5)]) dX12_returns_47 (by decide) rfl ?_
  refine go_iinc (v := (v5 + (1 : Int32))) (loc2 := [some (aA v0), some (aI v1), some (aI v2), some (aI v3), some (aI s0), some (aI (v5 + (1 : Int32)))]) dX12_returns_49 rfl rfl (by decide) rfl ?_
  refine go_goto (tgt := 19) dX12_returns_52 (by decide) ?_
  exact Hk s0 (v5 + (1 : Int32)) H
def b_X12_returns_19 (v0 : Nat) (v1 : Int32) (v2 : Int32) (v3 : Int32) (h : Hp) (K55 : Int32 → Option Int32) (k : Int32 → Int32 → Option Int32) (v4 : Int32) (v5 : Int32) : Option Int32 :=
  if v3 ≤ v5 then K55 v4 else if ¬ v4 = 0 then j_X12_returns_47 v0 v1 v2 v3 v5 (1 : Int32) h K55 k else (rc h v0 12 (m_X12_areAlike v0 v1 v3 v1 v5 h)).bind fun x1 => j_X12_returns_47 v0 v1 v2 v3 v5 (if x1 = 0 then (0 : Int32) else (1 : Int32)) h K55 k
set_option maxRecDepth 20000 in
theorem okb_X12_returns_19 {r : Int32} (v0 : Nat) (v1 : Int32) (v2 : Int32) (v3 : Int32) (h : Hp) (K55 : Int32 → Option Int32) (k : Int32 → Int32 → Option Int32) (v4 : Int32) (v5 : Int32) (HK55 : ∀ (v4q : Int32) , K55 v4q = some r → Go M_X12_returns (some (aI r), h) 55 [some (aA v0), some (aI v1), some (aI v2), some (aI v3), some (aI v4q), none] [] h) (Hk : ∀ (v4q : Int32) (v5q : Int32), k v4q v5q = some r → Go M_X12_returns (some (aI r), h) 19 [some (aA v0), some (aI v1), some (aI v2), some (aI v3), some (aI v4q), some (aI v5q)] [] h) (H : b_X12_returns_19 v0 v1 v2 v3 h K55 k v4 v5 = some r) : Go M_X12_returns (some (aI r), h) 19 [some (aA v0), some (aI v1), some (aI v2), some (aI v3), some (aI v4), some (aI v5)] [] h := by
  unfold b_X12_returns_19 at H
  refine go_iload dX12_returns_19 rfl ?_
  refine go_iloadn dX12_returns_21 rfl ?_
  refine go_icmp_ge (tgt := 55) dX12_returns_22 (by decide) (fun c1 => ?_) (fun c1 => ?_)
  · replace H := (gm_ite H).1 c1
    refine go_mask [true, true, true, true, true, false] (loc' := [some (aA v0), some (aI v1), some (aI v2), some (aI v3), some (aI v4), none]) rfl ?_
    exact HK55 v4 H
  · replace H := (gm_ite H).2 c1
    refine go_iload dX12_returns_25 rfl ?_
    refine go_if_ne (tgt := 42) dX12_returns_27 (by decide) (fun c2 => ?_) (fun c2 => ?_)
    · replace H := (gm_ite H).1 c2
      refine go_iconst (v := (1 : Int32)) dX12_returns_42 rfl ?_
      refine go_goto (tgt := 47) dX12_returns_43 (by decide) ?_
      refine go_mask [true, true, true, true, false, true] (loc' := [some (aA v0), some (aI v1), some (aI v2), some (aI v3), none, some (aI v5)]) rfl ?_
      exact okj_X12_returns_47 v0 v1 v2 v3 v5 (1 : Int32) h K55 k HK55 Hk H
    · replace H := (gm_ite H).2 c2
      refine go_aloadn dX12_returns_30 rfl ?_
      refine go_iloadn dX12_returns_31 rfl ?_
      refine go_iloadn dX12_returns_32 rfl ?_
      refine go_iloadn dX12_returns_33 rfl ?_
      refine go_iload dX12_returns_34 rfl ?_
      obtain ⟨c3, x1, ex1, H⟩ := gm_rc H
      refine go_callV (vs := [aI v1, aI v3, aI v1, aI v5]) (stk := []) (o1 := (some (aI x1), h)) mk_X12_areAlike sv_X12_returns_287 cl_X12 rfl dX12_returns_36 c3 rfl rfl (Nat.le_of_ble_eq_true rfl) (Nat.le_of_ble_eq_true rfl) (ok_X12_areAlike ex1) (show Go M_X12_returns (some (aI r), h) 39 [some (aA v0), some (aI v1), some (aI v2), some (aI v3), some (aI v4), some (aI v5)] [aI x1] h from ?_)
      refine go_if_eq (tgt := 46) dX12_returns_39 (by decide) (fun c4 => ?_) (fun c4 => ?_)
      · rw [if_pos c4] at H
        refine go_iconst (v := (0 : Int32)) dX12_returns_46 rfl ?_
        refine go_mask [true, true, true, true, false, true] (loc' := [some (aA v0), some (aI v1), some (aI v2), some (aI v3), none, some (aI v5)]) rfl ?_
        exact okj_X12_returns_47 v0 v1 v2 v3 v5 (0 : Int32) h K55 k HK55 Hk H
      · rw [if_neg c4] at H
        refine go_iconst (v := (1 : Int32)) dX12_returns_42 rfl ?_
        refine go_goto (tgt := 47) dX12_returns_43 (by decide) ?_
        refine go_mask [true, true, true, true, false, true] (loc' := [some (aA v0), some (aI v1), some (aI v2), some (aI v3), none, some (aI v5)]) rfl ?_
        exact okj_X12_returns_47 v0 v1 v2 v3 v5 (1 : Int32) h K55 k HK55 Hk H
def l_X12_returns_19 (v0 : Nat) (v1 : Int32) (v2 : Int32) (v3 : Int32) (h : Hp) (K55 : Int32 → Option Int32) (v4 : Int32) (v5 : Int32) : Option Int32 := loopK FUEL (fun (k : Int32 × Int32 → Option Int32) (s : Int32 × Int32) => b_X12_returns_19 v0 v1 v2 v3 h K55 (fun v4q v5q => k (v4q, v5q)) s.1 s.2) (v4, v5)
theorem okl_X12_returns_19 {r : Int32} (v0 : Nat) (v1 : Int32) (v2 : Int32) (v3 : Int32) (h : Hp) (K55 : Int32 → Option Int32) (v4 : Int32) (v5 : Int32) (HK55 : ∀ (v4q : Int32) , K55 v4q = some r → Go M_X12_returns (some (aI r), h) 55 [some (aA v0), some (aI v1), some (aI v2), some (aI v3), some (aI v4q), none] [] h) (H : l_X12_returns_19 v0 v1 v2 v3 h K55 v4 v5 = some r) : Go M_X12_returns (some (aI r), h) 19 [some (aA v0), some (aI v1), some (aI v2), some (aI v3), some (aI v4), some (aI v5)] [] h := by
  unfold l_X12_returns_19 at H
  exact go_loop (σ := Int32 × Int32) (body := (fun (k : Int32 × Int32 → Option Int32) (s : Int32 × Int32) => b_X12_returns_19 v0 v1 v2 v3 h K55 (fun v4q v5q => k (v4q, v5q)) s.1 s.2)) (fun s => [some (aA v0), some (aI v1), some (aI v2), some (aI v3), some (aI s.1), some (aI s.2)]) (fun s => h) (fun k s Hk H => okb_X12_returns_19 v0 v1 v2 v3 h K55 (fun v4q v5q => k (v4q, v5q)) s.1 s.2 HK55 (fun v4q v5q H => Hk (v4q, v5q) H) H) FUEL (v4, v5) H
def j_X12_returns_79 (v0 : Nat) (v1 : Int32) (v3 : Int32) (s0 : Int32) (s1 : Int32) (h : Hp) (k : Int32 → Int32 → Option Int32) : Option Int32 :=
  k (s0 + s1) (v3 + (1 : Int32))
set_option maxRecDepth 20000 in
theorem okj_X12_returns_79 {r : Int32} (v0 : Nat) (v1 : Int32) (v3 : Int32) (s0 : Int32) (s1 : Int32) (h : Hp) (k : Int32 → Int32 → Option Int32) (Hk : ∀ (v2q : Int32) (v3q : Int32), k v2q v3q = some r → Go M_X12_returns (some (aI r), h) 4 [some (aA v0), some (aI v1), some (aI v2q), some (aI v3q), none, none] [] h) (H : j_X12_returns_79 v0 v1 v3 s0 s1 h k = some r) : Go M_X12_returns (some (aI r), h) 79 [some (aA v0), some (aI v1), none, some (aI v3), none, none] [aI s1, aI s0] h := by
  unfold j_X12_returns_79 at H
  refine go_iadd dX12_returns_79 ?_
  refine go_istoren (loc2 := [some (aA v0), some (aI v1), some (aI (s0 + s1)), some (aI v3), none, none]) dX12_returns_80 rfl (by decide) rfl ?_
  refine go_iinc (v := (v3 + (1 : Int32))) (loc2 := [some (aA v0), some (aI v1), some (aI (s0 + s1)), some (aI (v3 + (1 : Int32))), none, none]) dX12_returns_81 rfl rfl (by decide) rfl ?_
  refine go_goto (tgt := 4) dX12_returns_84 (by decide) ?_
  exact Hk (s0 + s1) (v3 + (1 : Int32)) H
def j_X12_returns_55 (v0 : Nat) (v1 : Int32) (v2 : Int32) (v3 : Int32) (v4 : Int32)  (h : Hp) (k : Int32 → Int32 → Option Int32) : Option Int32 :=
  if v4 = 0 then j_X12_returns_79 v0 v1 v3 v2 (0 : Int32) h k else (rc h v0 12 (m_X12_areAlike v0 v1 v3 v1 (v3 - (1 : Int32)) h)).bind fun x1 => j_X12_returns_79 v0 v1 v3 v2 (if ¬ x1 = 0 then (0 : Int32) else (1 : Int32)) h k
set_option maxRecDepth 20000 in
theorem okj_X12_returns_55 {r : Int32} (v0 : Nat) (v1 : Int32) (v2 : Int32) (v3 : Int32) (v4 : Int32)  (h : Hp) (k : Int32 → Int32 → Option Int32) (Hk : ∀ (v2q : Int32) (v3q : Int32), k v2q v3q = some r → Go M_X12_returns (some (aI r), h) 4 [some (aA v0), some (aI v1), some (aI v2q), some (aI v3q), none, none] [] h) (H : j_X12_returns_55 v0 v1 v2 v3 v4 h k = some r) : Go M_X12_returns (some (aI r), h) 55 [some (aA v0), some (aI v1), some (aI v2), some (aI v3), some (aI v4), none] [] h := by
  unfold j_X12_returns_55 at H
  refine go_iloadn dX12_returns_55 rfl ?_
  refine go_iload dX12_returns_56 rfl ?_
  refine go_if_eq (tgt := 78) dX12_returns_58 (by decide) (fun c1 => ?_) (fun c1 => ?_)
  · replace H := (gm_ite H).1 c1
    refine go_iconst (v := (0 : Int32)) dX12_returns_78 rfl ?_
    refine go_mask [true, true, false, true, false, false] (loc' := [some (aA v0), some (aI v1), none, some (aI v3), none, none]) rfl ?_
    exact okj_X12_returns_79 v0 v1 v3 v2 (0 : Int32) h k Hk H
  · replace H := (gm_ite H).2 c1
    refine go_aloadn dX12_returns_61 rfl ?_
    refine go_iloadn dX12_returns_62 rfl ?_
    refine go_iloadn dX12_returns_63 rfl ?_
    refine go_iloadn dX12_returns_64 rfl ?_
    refine go_iloadn dX12_returns_65 rfl ?_
    refine go_iconst (v := (1 : Int32)) dX12_returns_66 rfl ?_
    refine go_isub dX12_returns_67 ?_
    obtain ⟨c2, x1, ex1, H⟩ := gm_rc H
    refine go_callV (vs := [aI v1, aI v3, aI v1, aI (v3 - (1 : Int32))]) (stk := [aI v2]) (o1 := (some (aI x1), h)) mk_X12_areAlike sv_X12_returns_287 cl_X12 rfl dX12_returns_68 c2 rfl rfl (Nat.le_of_ble_eq_true rfl) (Nat.le_of_ble_eq_true rfl) (ok_X12_areAlike ex1) (show Go M_X12_returns (some (aI r), h) 71 [some (aA v0), some (aI v1), some (aI v2), some (aI v3), some (aI v4), none] [aI x1, aI v2] h from ?_)
    refine go_if_ne (tgt := 78) dX12_returns_71 (by decide) (fun c3 => ?_) (fun c3 => ?_)
    · rw [if_pos c3] at H
      refine go_iconst (v := (0 : Int32)) dX12_returns_78 rfl ?_
      refine go_mask [true, true, false, true, false, false] (loc' := [some (aA v0), some (aI v1), none, some (aI v3), none, none]) rfl ?_
      exact okj_X12_returns_79 v0 v1 v3 v2 (0 : Int32) h k Hk H
    · rw [if_neg c3] at H
      refine go_iconst (v := (1 : Int32)) dX12_returns_74 rfl ?_
      refine go_goto (tgt := 79) dX12_returns_75 (by decide) ?_
      refine go_mask [true, true, false, true, false, false] (loc' := [some (aA v0), some (aI v1), none, some (aI v3), none, none]) rfl ?_
      exact okj_X12_returns_79 v0 v1 v3 v2 (1 : Int32) h k Hk H
def b_X12_returns_4 (v0 : Nat) (v1 : Int32) (h : Hp) (k : Int32 → Int32 → Option Int32) (v2 : Int32) (v3 : Int32) : Option Int32 :=
  (rc h v0 12 (m_X12_versions v0 v1 h)).bind fun x1 => if x1 ≤ v3 then (some v2) else l_X12_returns_19 v0 v1 v2 v3 h (fun a2_4 => j_X12_returns_55 v0 v1 v2 v3 a2_4 h k) (0 : Int32) (0 : Int32)
set_option maxRecDepth 20000 in
theorem okb_X12_returns_4 {r : Int32} (v0 : Nat) (v1 : Int32) (h : Hp) (k : Int32 → Int32 → Option Int32) (v2 : Int32) (v3 : Int32) (Hk : ∀ (v2q : Int32) (v3q : Int32), k v2q v3q = some r → Go M_X12_returns (some (aI r), h) 4 [some (aA v0), some (aI v1), some (aI v2q), some (aI v3q), none, none] [] h) (H : b_X12_returns_4 v0 v1 h k v2 v3 = some r) : Go M_X12_returns (some (aI r), h) 4 [some (aA v0), some (aI v1), some (aI v2), some (aI v3), none, none] [] h := by
  unfold b_X12_returns_4 at H
  refine go_iloadn dX12_returns_4 rfl ?_
  refine go_aloadn dX12_returns_5 rfl ?_
  refine go_iloadn dX12_returns_6 rfl ?_
  obtain ⟨c1, x1, ex1, H⟩ := gm_rc H
  refine go_callV (vs := [aI v1]) (stk := [aI v3]) (o1 := (some (aI x1), h)) mk_X12_versions sv_X12_returns_259 cl_X12 rfl dX12_returns_7 c1 rfl rfl (Nat.le_of_ble_eq_true rfl) (Nat.le_of_ble_eq_true rfl) (ok_X12_versions ex1) (show Go M_X12_returns (some (aI r), h) 10 [some (aA v0), some (aI v1), some (aI v2), some (aI v3), none, none] [aI x1, aI v3] h from ?_)
  refine go_icmp_ge (tgt := 87) dX12_returns_10 (by decide) (fun c2 => ?_) (fun c2 => ?_)
  · replace H := (gm_ite H).1 c2
    refine go_iloadn dX12_returns_87 rfl ?_
    obtain rfl := Option.some.inj H
    exact go_ireturn dX12_returns_88 (tyI_int rfl)
  · replace H := (gm_ite H).2 c2
    refine go_iconst (v := (0 : Int32)) dX12_returns_13 rfl ?_
    refine go_istore (loc2 := [some (aA v0), some (aI v1), some (aI v2), some (aI v3), some (aI (0 : Int32)), none]) dX12_returns_14 (by decide) rfl ?_
    refine go_iconst (v := (0 : Int32)) dX12_returns_16 rfl ?_
    refine go_istore (loc2 := [some (aA v0), some (aI v1), some (aI v2), some (aI v3), some (aI (0 : Int32)), some (aI (0 : Int32))]) dX12_returns_17 (by decide) rfl ?_
    refine okl_X12_returns_19 v0 v1 v2 v3 h (fun a2_4 => j_X12_returns_55 v0 v1 v2 v3 a2_4 h k) (0 : Int32) (0 : Int32) ?_ H
    · intro a2_4 H
      exact okj_X12_returns_55 v0 v1 v2 v3 a2_4 h k Hk H
def l_X12_returns_4 (v0 : Nat) (v1 : Int32) (h : Hp) (v2 : Int32) (v3 : Int32) : Option Int32 := loopK FUEL (fun (k : Int32 × Int32 → Option Int32) (s : Int32 × Int32) => b_X12_returns_4 v0 v1 h (fun v2q v3q => k (v2q, v3q)) s.1 s.2) (v2, v3)
theorem okl_X12_returns_4 {r : Int32} (v0 : Nat) (v1 : Int32) (h : Hp) (v2 : Int32) (v3 : Int32) (H : l_X12_returns_4 v0 v1 h v2 v3 = some r) : Go M_X12_returns (some (aI r), h) 4 [some (aA v0), some (aI v1), some (aI v2), some (aI v3), none, none] [] h := by
  unfold l_X12_returns_4 at H
  exact go_loop (σ := Int32 × Int32) (body := (fun (k : Int32 × Int32 → Option Int32) (s : Int32 × Int32) => b_X12_returns_4 v0 v1 h (fun v2q v3q => k (v2q, v3q)) s.1 s.2)) (fun s => [some (aA v0), some (aI v1), some (aI s.1), some (aI s.2), none, none]) (fun s => h) (fun k s Hk H => okb_X12_returns_4 v0 v1 h (fun v2q v3q => k (v2q, v3q)) s.1 s.2  (fun v2q v3q H => Hk (v2q, v3q) H) H) FUEL (v2, v3) H
def m_X12_returns (v0 : Nat) (v1 : Int32) (h : Hp) : Option Int32 :=
  l_X12_returns_4 v0 v1 h (0 : Int32) (1 : Int32)
set_option maxRecDepth 20000 in
theorem ok_X12_returns {r : Int32} {v0 : Nat} {v1 : Int32} {h : Hp} (H : m_X12_returns v0 v1 h = some r) : Ev M_X12_returns [aA v0, aI v1] h (some (aI r), h) := by
  show Go M_X12_returns (some (aI r), h) 0 [some (aA v0), some (aI v1), none, none, none, none] [] h
  unfold m_X12_returns at H
  refine go_iconst (v := (0 : Int32)) dX12_returns_0 rfl ?_
  refine go_istoren (loc2 := [some (aA v0), some (aI v1), some (aI (0 : Int32)), none, none, none]) dX12_returns_1 rfl (by decide) rfl ?_
  refine go_iconst (v := (1 : Int32)) dX12_returns_2 rfl ?_
  refine go_istoren (loc2 := [some (aA v0), some (aI v1), some (aI (0 : Int32)), some (aI (1 : Int32)), none, none]) dX12_returns_3 rfl (by decide) rfl ?_
  exact okl_X12_returns_4 v0 v1 h (0 : Int32) (1 : Int32) H
/-! X12_ofDoc -/
def j_X12_ofDoc_66  (s0 : Nat) (s1 : Int32) (s2 : Int32) (h : Hp) : Option Int32 :=
  (rc h s0 12 (m_X12_passages s0 s1 s2 h)).bind fun x1 => some x1
set_option maxRecDepth 20000 in
theorem okj_X12_ofDoc_66 {r : Int32}  (s0 : Nat) (s1 : Int32) (s2 : Int32) (h : Hp) (H : j_X12_ofDoc_66 s0 s1 s2 h = some r) : Go M_X12_ofDoc (some (aI r), h) 66 [none, none, none] [aI s2, aI s1, aA s0] h := by
  unfold j_X12_ofDoc_66 at H
  obtain ⟨c1, x1, ex1, H⟩ := gm_rc H
  refine go_callV (vs := [aI s1, aI s2]) (stk := []) (o1 := (some (aI x1), h)) mk_X12_passages sv_X12_ofDoc_303 cl_X12 rfl dX12_ofDoc_66 c1 rfl rfl (Nat.le_of_ble_eq_true rfl) (Nat.le_of_ble_eq_true rfl) (ok_X12_passages ex1) (show Go M_X12_ofDoc (some (aI r), h) 69 [none, none, none] [aI x1] h from ?_)
  obtain rfl := Option.some.inj H
  exact go_ireturn dX12_ofDoc_69 (tyI_int rfl)
def j_X12_ofDoc_54 (v0 : Nat) (v1 : Int32) (v2 : Int32)  (h : Hp) : Option Int32 :=
  j_X12_ofDoc_66 v0 v1 (if ¬ v2 = (3 : Int32) then (0 : Int32) else (1 : Int32)) h
set_option maxRecDepth 20000 in
theorem okj_X12_ofDoc_54 {r : Int32} (v0 : Nat) (v1 : Int32) (v2 : Int32)  (h : Hp) (H : j_X12_ofDoc_54 v0 v1 v2 h = some r) : Go M_X12_ofDoc (some (aI r), h) 54 [some (aA v0), some (aI v1), some (aI v2)] [] h := by
  unfold j_X12_ofDoc_54 at H
  refine go_aloadn dX12_ofDoc_54 rfl ?_
  refine go_iloadn dX12_ofDoc_55 rfl ?_
  refine go_iloadn dX12_ofDoc_56 rfl ?_
  refine go_iconst (v := (3 : Int32)) dX12_ofDoc_57 rfl ?_
  refine go_icmp_ne (tgt := 65) dX12_ofDoc_58 (by decide) (fun c1 => ?_) (fun c1 => ?_)
  · rw [if_pos c1] at H
    refine go_iconst (v := (0 : Int32)) dX12_ofDoc_65 rfl ?_
    refine go_mask [false, false, false] (loc' := [none, none, none]) rfl ?_
    exact okj_X12_ofDoc_66 v0 v1 (0 : Int32) h  H
  · rw [if_neg c1] at H
    refine go_iconst (v := (1 : Int32)) dX12_ofDoc_61 rfl ?_
    refine go_goto (tgt := 66) dX12_ofDoc_62 (by decide) ?_
    refine go_mask [false, false, false] (loc' := [none, none, none]) rfl ?_
    exact okj_X12_ofDoc_66 v0 v1 (1 : Int32) h  H
def m_X12_ofDoc (v0 : Nat) (v1 : Int32) (v2 : Int32) (h : Hp) : Option Int32 :=
  (rc h v0 12 (m_X12_isDoc v0 v1 h)).bind fun x1 => if ¬ x1 = 0 then (if v2 = (1 : Int32) then ((rc h v0 12 (m_X12_versions v0 v1 h)).bind fun x2 => some x2) else if v2 = (2 : Int32) then (j_X12_ofDoc_54 v0 v1 v2 h) else if v2 = (3 : Int32) then (j_X12_ofDoc_54 v0 v1 v2 h) else if v2 = (4 : Int32) then ((rc h v0 12 (m_X12_keptIn v0 v1 h)).bind fun x3 => some x3) else if v2 = (5 : Int32) then ((rc h v0 12 (m_X12_returns v0 v1 h)).bind fun x4 => some x4) else some (-2 : Int32)) else some (-2 : Int32)
set_option maxRecDepth 20000 in
theorem ok_X12_ofDoc {r : Int32} {v0 : Nat} {v1 : Int32} {v2 : Int32} {h : Hp} (H : m_X12_ofDoc v0 v1 v2 h = some r) : Ev M_X12_ofDoc [aA v0, aI v1, aI v2] h (some (aI r), h) := by
  show Go M_X12_ofDoc (some (aI r), h) 0 [some (aA v0), some (aI v1), some (aI v2)] [] h
  unfold m_X12_ofDoc at H
  refine go_aloadn dX12_ofDoc_0 rfl ?_
  refine go_iloadn dX12_ofDoc_1 rfl ?_
  obtain ⟨c1, x1, ex1, H⟩ := gm_rc H
  refine go_callV (vs := [aI v1]) (stk := []) (o1 := (some (aI x1), h)) mk_X12_isDoc sv_X12_ofDoc_256 cl_X12 rfl dX12_ofDoc_2 c1 rfl rfl (Nat.le_of_ble_eq_true rfl) (Nat.le_of_ble_eq_true rfl) (ok_X12_isDoc ex1) (show Go M_X12_ofDoc (some (aI r), h) 5 [some (aA v0), some (aI v1), some (aI v2)] [aI x1] h from ?_)
  refine go_if_ne (tgt := 11) dX12_ofDoc_5 (by decide) (fun c2 => ?_) (fun c2 => ?_)
  · replace H := (gm_ite H).1 c2
    refine go_iloadn dX12_ofDoc_11 rfl ?_
    by_cases c3 : v2 = (1 : Int32)
    · replace H := (gm_ite H).1 c3
      refine go_eqI c3 ?_
      refine go_tableIn (tgt := 48) dX12_ofDoc_12 (by decide) (by decide) rfl (by decide) ?_
      refine go_aloadn dX12_ofDoc_48 rfl ?_
      refine go_iloadn dX12_ofDoc_49 rfl ?_
      obtain ⟨c4, x2, ex2, H⟩ := gm_rc H
      refine go_callV (vs := [aI v1]) (stk := []) (o1 := (some (aI x2), h)) mk_X12_versions sv_X12_ofDoc_259 cl_X12 rfl dX12_ofDoc_50 c4 rfl rfl (Nat.le_of_ble_eq_true rfl) (Nat.le_of_ble_eq_true rfl) (ok_X12_versions ex2) (show Go M_X12_ofDoc (some (aI r), h) 53 [some (aA v0), some (aI v1), some (aI v2)] [aI x2] h from ?_)
      obtain rfl := Option.some.inj H
      exact go_ireturn dX12_ofDoc_53 (tyI_int rfl)
    · replace H := (gm_ite H).2 c3
      by_cases c5 : v2 = (2 : Int32)
      · replace H := (gm_ite H).1 c5
        refine go_eqI c5 ?_
        refine go_tableIn (tgt := 54) dX12_ofDoc_12 (by decide) (by decide) rfl (by decide) ?_
        exact okj_X12_ofDoc_54 v0 v1 v2 h  H
      · replace H := (gm_ite H).2 c5
        by_cases c6 : v2 = (3 : Int32)
        · replace H := (gm_ite H).1 c6
          refine go_eqI c6 ?_
          refine go_tableIn (tgt := 54) dX12_ofDoc_12 (by decide) (by decide) rfl (by decide) ?_
          exact okj_X12_ofDoc_54 v0 v1 v2 h  H
        · replace H := (gm_ite H).2 c6
          by_cases c7 : v2 = (4 : Int32)
          · replace H := (gm_ite H).1 c7
            refine go_eqI c7 ?_
            refine go_tableIn (tgt := 70) dX12_ofDoc_12 (by decide) (by decide) rfl (by decide) ?_
            refine go_aloadn dX12_ofDoc_70 rfl ?_
            refine go_iloadn dX12_ofDoc_71 rfl ?_
            obtain ⟨c8, x3, ex3, H⟩ := gm_rc H
            refine go_callV (vs := [aI v1]) (stk := []) (o1 := (some (aI x3), h)) mk_X12_keptIn sv_X12_ofDoc_307 cl_X12 rfl dX12_ofDoc_72 c8 rfl rfl (Nat.le_of_ble_eq_true rfl) (Nat.le_of_ble_eq_true rfl) (ok_X12_keptIn ex3) (show Go M_X12_ofDoc (some (aI r), h) 75 [some (aA v0), some (aI v1), some (aI v2)] [aI x3] h from ?_)
            obtain rfl := Option.some.inj H
            exact go_ireturn dX12_ofDoc_75 (tyI_int rfl)
          · replace H := (gm_ite H).2 c7
            by_cases c9 : v2 = (5 : Int32)
            · replace H := (gm_ite H).1 c9
              refine go_eqI c9 ?_
              refine go_tableIn (tgt := 76) dX12_ofDoc_12 (by decide) (by decide) rfl (by decide) ?_
              refine go_aloadn dX12_ofDoc_76 rfl ?_
              refine go_iloadn dX12_ofDoc_77 rfl ?_
              obtain ⟨c10, x4, ex4, H⟩ := gm_rc H
              refine go_callV (vs := [aI v1]) (stk := []) (o1 := (some (aI x4), h)) mk_X12_returns sv_X12_ofDoc_310 cl_X12 rfl dX12_ofDoc_78 c10 rfl rfl (Nat.le_of_ble_eq_true rfl) (Nat.le_of_ble_eq_true rfl) (ok_X12_returns ex4) (show Go M_X12_ofDoc (some (aI r), h) 81 [some (aA v0), some (aI v1), some (aI v2)] [aI x4] h from ?_)
              obtain rfl := Option.some.inj H
              exact go_ireturn dX12_ofDoc_81 (tyI_int rfl)
            · replace H := (gm_ite H).2 c9
              refine go_tableOut (tgt := 82) dX12_ofDoc_12 (sw_out (fun i h1 h2 e => ?_)) (by decide) ?_
              · have h3 : i = 1 ∨ i = 2 ∨ i = 3 ∨ i = 4 ∨ i = 5 := by omega
                rcases h3 with rfl | rfl | rfl | rfl | rfl
                · exact sw_ne c3 (by decide) e
                · exact sw_ne c5 (by decide) e
                · exact sw_ne c6 (by decide) e
                · exact sw_ne c7 (by decide) e
                · exact sw_ne c9 (by decide) e
              · skip
                refine go_bipush (v := (-2 : Int32)) dX12_ofDoc_82 rfl ?_
                obtain rfl := Option.some.inj H
                exact go_ireturn dX12_ofDoc_84 (tyI_int rfl)
  · replace H := (gm_ite H).2 c2
    refine go_bipush (v := (-2 : Int32)) dX12_ofDoc_8 rfl ?_
    obtain rfl := Option.some.inj H
    exact go_ireturn dX12_ofDoc_10 (tyI_int rfl)
/-! X12_versionsAll -/
def b_X12_versionsAll_4 (v0 : Nat) (h : Hp) (k : Int32 → Int32 → Option Int32) (v1 : Int32) (v2 : Int32) : Option Int32 :=
  (gfR h v0 12 18).bind fun x1 => (alI h x1 (0 : Int32)).bind fun x2 => if x2 ≤ v2 then (some v1) else (rc h v0 12 (m_X12_versions v0 v2 h)).bind fun x3 => k (v1 + x3) (v2 + (1 : Int32))
set_option maxRecDepth 20000 in
theorem okb_X12_versionsAll_4 {r : Int32} (v0 : Nat) (h : Hp) (k : Int32 → Int32 → Option Int32) (v1 : Int32) (v2 : Int32) (Hk : ∀ (v1q : Int32) (v2q : Int32), k v1q v2q = some r → Go M_X12_versionsAll (some (aI r), h) 4 [some (aA v0), some (aI v1q), some (aI v2q)] [] h) (H : b_X12_versionsAll_4 v0 h k v1 v2 = some r) : Go M_X12_versionsAll (some (aI r), h) 4 [some (aA v0), some (aI v1), some (aI v2)] [] h := by
  unfold b_X12_versionsAll_4 at H
  refine go_iloadn dX12_versionsAll_4 rfl ?_
  refine go_aloadn dX12_versionsAll_5 rfl ?_
  refine gm_getR fd_X12_35 dX12_versionsAll_6 H (fun x1 H => ?_)
  refine go_iconst (v := (0 : Int32)) dX12_versionsAll_9 rfl ?_
  refine gm_iald dX12_versionsAll_10 H (fun x2 H => ?_)
  refine go_icmp_ge (tgt := 28) dX12_versionsAll_11 (by decide) (fun c1 => ?_) (fun c1 => ?_)
  · replace H := (gm_ite H).1 c1
    refine go_iloadn dX12_versionsAll_28 rfl ?_
    obtain rfl := Option.some.inj H
    exact go_ireturn dX12_versionsAll_29 (tyI_int rfl)
  · replace H := (gm_ite H).2 c1
    refine go_iloadn dX12_versionsAll_14 rfl ?_
    refine go_aloadn dX12_versionsAll_15 rfl ?_
    refine go_iloadn dX12_versionsAll_16 rfl ?_
    obtain ⟨c2, x3, ex3, H⟩ := gm_rc H
    refine go_callV (vs := [aI v2]) (stk := [aI v1]) (o1 := (some (aI x3), h)) mk_X12_versions sv_X12_versionsAll_259 cl_X12 rfl dX12_versionsAll_17 c2 rfl rfl (Nat.le_of_ble_eq_true rfl) (Nat.le_of_ble_eq_true rfl) (ok_X12_versions ex3) (show Go M_X12_versionsAll (some (aI r), h) 20 [some (aA v0), some (aI v1), some (aI v2)] [aI x3, aI v1] h from ?_)
    refine go_iadd dX12_versionsAll_20 ?_
    refine go_istoren (loc2 := [some (aA v0), some (aI (v1 + x3)), some (aI v2)]) dX12_versionsAll_21 rfl (by decide) rfl ?_
    refine go_iinc (v := (v2 + (1 : Int32))) (loc2 := [some (aA v0), some (aI (v1 + x3)), some (aI (v2 + (1 : Int32)))]) dX12_versionsAll_22 rfl rfl (by decide) rfl ?_
    refine go_goto (tgt := 4) dX12_versionsAll_25 (by decide) ?_
    exact Hk (v1 + x3) (v2 + (1 : Int32)) H
def l_X12_versionsAll_4 (v0 : Nat) (h : Hp) (v1 : Int32) (v2 : Int32) : Option Int32 := loopK FUEL (fun (k : Int32 × Int32 → Option Int32) (s : Int32 × Int32) => b_X12_versionsAll_4 v0 h (fun v1q v2q => k (v1q, v2q)) s.1 s.2) (v1, v2)
theorem okl_X12_versionsAll_4 {r : Int32} (v0 : Nat) (h : Hp) (v1 : Int32) (v2 : Int32) (H : l_X12_versionsAll_4 v0 h v1 v2 = some r) : Go M_X12_versionsAll (some (aI r), h) 4 [some (aA v0), some (aI v1), some (aI v2)] [] h := by
  unfold l_X12_versionsAll_4 at H
  exact go_loop (σ := Int32 × Int32) (body := (fun (k : Int32 × Int32 → Option Int32) (s : Int32 × Int32) => b_X12_versionsAll_4 v0 h (fun v1q v2q => k (v1q, v2q)) s.1 s.2)) (fun s => [some (aA v0), some (aI s.1), some (aI s.2)]) (fun s => h) (fun k s Hk H => okb_X12_versionsAll_4 v0 h (fun v1q v2q => k (v1q, v2q)) s.1 s.2  (fun v1q v2q H => Hk (v1q, v2q) H) H) FUEL (v1, v2) H
def m_X12_versionsAll (v0 : Nat) (h : Hp) : Option Int32 :=
  l_X12_versionsAll_4 v0 h (0 : Int32) (0 : Int32)
set_option maxRecDepth 20000 in
theorem ok_X12_versionsAll {r : Int32} {v0 : Nat} {h : Hp} (H : m_X12_versionsAll v0 h = some r) : Ev M_X12_versionsAll [aA v0] h (some (aI r), h) := by
  show Go M_X12_versionsAll (some (aI r), h) 0 [some (aA v0), none, none] [] h
  unfold m_X12_versionsAll at H
  refine go_iconst (v := (0 : Int32)) dX12_versionsAll_0 rfl ?_
  refine go_istoren (loc2 := [some (aA v0), some (aI (0 : Int32)), none]) dX12_versionsAll_1 rfl (by decide) rfl ?_
  refine go_iconst (v := (0 : Int32)) dX12_versionsAll_2 rfl ?_
  refine go_istoren (loc2 := [some (aA v0), some (aI (0 : Int32)), some (aI (0 : Int32))]) dX12_versionsAll_3 rfl (by decide) rfl ?_
  exact okl_X12_versionsAll_4 v0 h (0 : Int32) (0 : Int32) H
/-! X12_sizeAll -/
def b_X12_sizeAll_16 (v0 : Nat) (v2 : Int32) (h : Hp) (K40 : Int32 → Option Int32) (k : Int32 → Int32 → Option Int32) (v1 : Int32) (v3 : Int32) : Option Int32 :=
  (rc h v0 12 (m_X12_versions v0 v2 h)).bind fun x1 => if x1 ≤ v3 then K40 v1 else (rc h v0 12 (m_X12_longOf v0 v2 v3 h)).bind fun x2 => k (v1 + x2) (v3 + (1 : Int32))
set_option maxRecDepth 20000 in
theorem okb_X12_sizeAll_16 {r : Int32} (v0 : Nat) (v2 : Int32) (h : Hp) (K40 : Int32 → Option Int32) (k : Int32 → Int32 → Option Int32) (v1 : Int32) (v3 : Int32) (HK40 : ∀ (v1q : Int32) , K40 v1q = some r → Go M_X12_sizeAll (some (aI r), h) 40 [some (aA v0), some (aI v1q), some (aI v2), none] [] h) (Hk : ∀ (v1q : Int32) (v3q : Int32), k v1q v3q = some r → Go M_X12_sizeAll (some (aI r), h) 16 [some (aA v0), some (aI v1q), some (aI v2), some (aI v3q)] [] h) (H : b_X12_sizeAll_16 v0 v2 h K40 k v1 v3 = some r) : Go M_X12_sizeAll (some (aI r), h) 16 [some (aA v0), some (aI v1), some (aI v2), some (aI v3)] [] h := by
  unfold b_X12_sizeAll_16 at H
  refine go_iloadn dX12_sizeAll_16 rfl ?_
  refine go_aloadn dX12_sizeAll_17 rfl ?_
  refine go_iloadn dX12_sizeAll_18 rfl ?_
  obtain ⟨c1, x1, ex1, H⟩ := gm_rc H
  refine go_callV (vs := [aI v2]) (stk := [aI v3]) (o1 := (some (aI x1), h)) mk_X12_versions sv_X12_sizeAll_259 cl_X12 rfl dX12_sizeAll_19 c1 rfl rfl (Nat.le_of_ble_eq_true rfl) (Nat.le_of_ble_eq_true rfl) (ok_X12_versions ex1) (show Go M_X12_sizeAll (some (aI r), h) 22 [some (aA v0), some (aI v1), some (aI v2), some (aI v3)] [aI x1, aI v3] h from ?_)
  refine go_icmp_ge (tgt := 40) dX12_sizeAll_22 (by decide) (fun c2 => ?_) (fun c2 => ?_)
  · replace H := (gm_ite H).1 c2
    refine go_mask [true, true, true, false] (loc' := [some (aA v0), some (aI v1), some (aI v2), none]) rfl ?_
    exact HK40 v1 H
  · replace H := (gm_ite H).2 c2
    refine go_iloadn dX12_sizeAll_25 rfl ?_
    refine go_aloadn dX12_sizeAll_26 rfl ?_
    refine go_iloadn dX12_sizeAll_27 rfl ?_
    refine go_iloadn dX12_sizeAll_28 rfl ?_
    obtain ⟨c3, x2, ex2, H⟩ := gm_rc H
    refine go_callV (vs := [aI v2, aI v3]) (stk := [aI v1]) (o1 := (some (aI x2), h)) mk_X12_longOf sv_X12_sizeAll_269 cl_X12 rfl dX12_sizeAll_29 c3 rfl rfl (Nat.le_of_ble_eq_true rfl) (Nat.le_of_ble_eq_true rfl) (ok_X12_longOf ex2) (show Go M_X12_sizeAll (some (aI r), h) 32 [some (aA v0), some (aI v1), some (aI v2), some (aI v3)] [aI x2, aI v1] h from ?_)
    refine go_iadd dX12_sizeAll_32 ?_
    refine go_istoren (loc2 := [some (aA v0), some (aI (v1 + x2)), some (aI v2), some (aI v3)]) dX12_sizeAll_33 rfl (by decide) rfl ?_
    refine go_iinc (v := (v3 + (1 : Int32))) (loc2 := [some (aA v0), some (aI (v1 + x2)), some (aI v2), some (aI (v3 + (1 : Int32)))]) dX12_sizeAll_34 rfl rfl (by decide) rfl ?_
    refine go_goto (tgt := 16) dX12_sizeAll_37 (by decide) ?_
    exact Hk (v1 + x2) (v3 + (1 : Int32)) H
def l_X12_sizeAll_16 (v0 : Nat) (v2 : Int32) (h : Hp) (K40 : Int32 → Option Int32) (v1 : Int32) (v3 : Int32) : Option Int32 := loopK FUEL (fun (k : Int32 × Int32 → Option Int32) (s : Int32 × Int32) => b_X12_sizeAll_16 v0 v2 h K40 (fun v1q v3q => k (v1q, v3q)) s.1 s.2) (v1, v3)
theorem okl_X12_sizeAll_16 {r : Int32} (v0 : Nat) (v2 : Int32) (h : Hp) (K40 : Int32 → Option Int32) (v1 : Int32) (v3 : Int32) (HK40 : ∀ (v1q : Int32) , K40 v1q = some r → Go M_X12_sizeAll (some (aI r), h) 40 [some (aA v0), some (aI v1q), some (aI v2), none] [] h) (H : l_X12_sizeAll_16 v0 v2 h K40 v1 v3 = some r) : Go M_X12_sizeAll (some (aI r), h) 16 [some (aA v0), some (aI v1), some (aI v2), some (aI v3)] [] h := by
  unfold l_X12_sizeAll_16 at H
  exact go_loop (σ := Int32 × Int32) (body := (fun (k : Int32 × Int32 → Option Int32) (s : Int32 × Int32) => b_X12_sizeAll_16 v0 v2 h K40 (fun v1q v3q => k (v1q, v3q)) s.1 s.2)) (fun s => [some (aA v0), some (aI s.1), some (aI v2), some (aI s.2)]) (fun s => h) (fun k s Hk H => okb_X12_sizeAll_16 v0 v2 h K40 (fun v1q v3q => k (v1q, v3q)) s.1 s.2 HK40 (fun v1q v3q H => Hk (v1q, v3q) H) H) FUEL (v1, v3) H
def j_X12_sizeAll_40 (v0 : Nat) (v1 : Int32) (v2 : Int32)  (h : Hp) (k : Int32 → Int32 → Option Int32) : Option Int32 :=
  k v1 (v2 + (1 : Int32))
set_option maxRecDepth 20000 in
theorem okj_X12_sizeAll_40 {r : Int32} (v0 : Nat) (v1 : Int32) (v2 : Int32)  (h : Hp) (k : Int32 → Int32 → Option Int32) (Hk : ∀ (v1q : Int32) (v2q : Int32), k v1q v2q = some r → Go M_X12_sizeAll (some (aI r), h) 4 [some (aA v0), some (aI v1q), some (aI v2q), none] [] h) (H : j_X12_sizeAll_40 v0 v1 v2 h k = some r) : Go M_X12_sizeAll (some (aI r), h) 40 [some (aA v0), some (aI v1), some (aI v2), none] [] h := by
  unfold j_X12_sizeAll_40 at H
  refine go_iinc (v := (v2 + (1 : Int32))) (loc2 := [some (aA v0), some (aI v1), some (aI (v2 + (1 : Int32))), none]) dX12_sizeAll_40 rfl rfl (by decide) rfl ?_
  refine go_goto (tgt := 4) dX12_sizeAll_43 (by decide) ?_
  exact Hk v1 (v2 + (1 : Int32)) H
def b_X12_sizeAll_4 (v0 : Nat) (h : Hp) (k : Int32 → Int32 → Option Int32) (v1 : Int32) (v2 : Int32) : Option Int32 :=
  (gfR h v0 12 18).bind fun x1 => (alI h x1 (0 : Int32)).bind fun x2 => if x2 ≤ v2 then (some v1) else l_X12_sizeAll_16 v0 v2 h (fun a3_1 => j_X12_sizeAll_40 v0 a3_1 v2 h k) v1 (0 : Int32)
set_option maxRecDepth 20000 in
theorem okb_X12_sizeAll_4 {r : Int32} (v0 : Nat) (h : Hp) (k : Int32 → Int32 → Option Int32) (v1 : Int32) (v2 : Int32) (Hk : ∀ (v1q : Int32) (v2q : Int32), k v1q v2q = some r → Go M_X12_sizeAll (some (aI r), h) 4 [some (aA v0), some (aI v1q), some (aI v2q), none] [] h) (H : b_X12_sizeAll_4 v0 h k v1 v2 = some r) : Go M_X12_sizeAll (some (aI r), h) 4 [some (aA v0), some (aI v1), some (aI v2), none] [] h := by
  unfold b_X12_sizeAll_4 at H
  refine go_iloadn dX12_sizeAll_4 rfl ?_
  refine go_aloadn dX12_sizeAll_5 rfl ?_
  refine gm_getR fd_X12_35 dX12_sizeAll_6 H (fun x1 H => ?_)
  refine go_iconst (v := (0 : Int32)) dX12_sizeAll_9 rfl ?_
  refine gm_iald dX12_sizeAll_10 H (fun x2 H => ?_)
  refine go_icmp_ge (tgt := 46) dX12_sizeAll_11 (by decide) (fun c1 => ?_) (fun c1 => ?_)
  · replace H := (gm_ite H).1 c1
    refine go_iloadn dX12_sizeAll_46 rfl ?_
    obtain rfl := Option.some.inj H
    exact go_ireturn dX12_sizeAll_47 (tyI_int rfl)
  · replace H := (gm_ite H).2 c1
    refine go_iconst (v := (0 : Int32)) dX12_sizeAll_14 rfl ?_
    refine go_istoren (loc2 := [some (aA v0), some (aI v1), some (aI v2), some (aI (0 : Int32))]) dX12_sizeAll_15 rfl (by decide) rfl ?_
    refine okl_X12_sizeAll_16 v0 v2 h (fun a3_1 => j_X12_sizeAll_40 v0 a3_1 v2 h k) v1 (0 : Int32) ?_ H
    · intro a3_1 H
      exact okj_X12_sizeAll_40 v0 a3_1 v2 h k Hk H
def l_X12_sizeAll_4 (v0 : Nat) (h : Hp) (v1 : Int32) (v2 : Int32) : Option Int32 := loopK FUEL (fun (k : Int32 × Int32 → Option Int32) (s : Int32 × Int32) => b_X12_sizeAll_4 v0 h (fun v1q v2q => k (v1q, v2q)) s.1 s.2) (v1, v2)
theorem okl_X12_sizeAll_4 {r : Int32} (v0 : Nat) (h : Hp) (v1 : Int32) (v2 : Int32) (H : l_X12_sizeAll_4 v0 h v1 v2 = some r) : Go M_X12_sizeAll (some (aI r), h) 4 [some (aA v0), some (aI v1), some (aI v2), none] [] h := by
  unfold l_X12_sizeAll_4 at H
  exact go_loop (σ := Int32 × Int32) (body := (fun (k : Int32 × Int32 → Option Int32) (s : Int32 × Int32) => b_X12_sizeAll_4 v0 h (fun v1q v2q => k (v1q, v2q)) s.1 s.2)) (fun s => [some (aA v0), some (aI s.1), some (aI s.2), none]) (fun s => h) (fun k s Hk H => okb_X12_sizeAll_4 v0 h (fun v1q v2q => k (v1q, v2q)) s.1 s.2  (fun v1q v2q H => Hk (v1q, v2q) H) H) FUEL (v1, v2) H
def m_X12_sizeAll (v0 : Nat) (h : Hp) : Option Int32 :=
  l_X12_sizeAll_4 v0 h (0 : Int32) (0 : Int32)
set_option maxRecDepth 20000 in
theorem ok_X12_sizeAll {r : Int32} {v0 : Nat} {h : Hp} (H : m_X12_sizeAll v0 h = some r) : Ev M_X12_sizeAll [aA v0] h (some (aI r), h) := by
  show Go M_X12_sizeAll (some (aI r), h) 0 [some (aA v0), none, none, none] [] h
  unfold m_X12_sizeAll at H
  refine go_iconst (v := (0 : Int32)) dX12_sizeAll_0 rfl ?_
  refine go_istoren (loc2 := [some (aA v0), some (aI (0 : Int32)), none, none]) dX12_sizeAll_1 rfl (by decide) rfl ?_
  refine go_iconst (v := (0 : Int32)) dX12_sizeAll_2 rfl ?_
  refine go_istoren (loc2 := [some (aA v0), some (aI (0 : Int32)), some (aI (0 : Int32)), none]) dX12_sizeAll_3 rfl (by decide) rfl ?_
  exact okl_X12_sizeAll_4 v0 h (0 : Int32) (0 : Int32) H
/-! X12_rowsIn -/
def j_X12_rowsIn_38 (v0 : Int32) (v2 : Int32) (s0 : Int32) (s1 : Int32) (h : Hp) (k : Int32 → Int32 → Option Int32) : Option Int32 :=
  k (s0 + s1) (v2 + (1 : Int32))
set_option maxRecDepth 20000 in
theorem okj_X12_rowsIn_38 {r : Int32} (v0 : Int32) (v2 : Int32) (s0 : Int32) (s1 : Int32) (h : Hp) (k : Int32 → Int32 → Option Int32) (Hk : ∀ (v1q : Int32) (v2q : Int32), k v1q v2q = some r → Go M_X12_rowsIn (some (aI r), h) 4 [some (aI v0), some (aI v1q), some (aI v2q)] [] h) (H : j_X12_rowsIn_38 v0 v2 s0 s1 h k = some r) : Go M_X12_rowsIn (some (aI r), h) 38 [some (aI v0), none, some (aI v2)] [aI s1, aI s0] h := by
  unfold j_X12_rowsIn_38 at H
  refine go_iadd dX12_rowsIn_38 ?_
  refine go_istoren (loc2 := [some (aI v0), some (aI (s0 + s1)), some (aI v2)]) dX12_rowsIn_39 rfl (by decide) rfl ?_
  refine go_iinc (v := (v2 + (1 : Int32))) (loc2 := [some (aI v0), some (aI (s0 + s1)), some (aI (v2 + (1 : Int32)))]) dX12_rowsIn_40 rfl rfl (by decide) rfl ?_
  refine go_goto (tgt := 4) dX12_rowsIn_43 (by decide) ?_
  exact Hk (s0 + s1) (v2 + (1 : Int32)) H
def b_X12_rowsIn_4 (v0 : Int32) (h : Hp) (k : Int32 → Int32 → Option Int32) (v1 : Int32) (v2 : Int32) : Option Int32 :=
  if (10 : Int32) ≤ v2 then (some v1) else (m_X12_has v0 v2 h).bind fun x1 => if x1 = 0 then j_X12_rowsIn_38 v0 v2 v1 (0 : Int32) h k else if v2 = 0 then j_X12_rowsIn_38 v0 v2 v1 (1 : Int32) h k else (m_X12_has v0 (v2 - (1 : Int32)) h).bind fun x2 => j_X12_rowsIn_38 v0 v2 v1 (if ¬ x2 = 0 then (0 : Int32) else (1 : Int32)) h k
set_option maxRecDepth 20000 in
theorem okb_X12_rowsIn_4 {r : Int32} (v0 : Int32) (h : Hp) (k : Int32 → Int32 → Option Int32) (v1 : Int32) (v2 : Int32) (Hk : ∀ (v1q : Int32) (v2q : Int32), k v1q v2q = some r → Go M_X12_rowsIn (some (aI r), h) 4 [some (aI v0), some (aI v1q), some (aI v2q)] [] h) (H : b_X12_rowsIn_4 v0 h k v1 v2 = some r) : Go M_X12_rowsIn (some (aI r), h) 4 [some (aI v0), some (aI v1), some (aI v2)] [] h := by
  unfold b_X12_rowsIn_4 at H
  refine go_iloadn dX12_rowsIn_4 rfl ?_
  refine go_bipush (v := (10 : Int32)) dX12_rowsIn_5 rfl ?_
  refine go_icmp_ge (tgt := 46) dX12_rowsIn_7 (by decide) (fun c1 => ?_) (fun c1 => ?_)
  · replace H := (gm_ite H).1 c1
    refine go_iloadn dX12_rowsIn_46 rfl ?_
    obtain rfl := Option.some.inj H
    exact go_ireturn dX12_rowsIn_47 (tyI_int rfl)
  · replace H := (gm_ite H).2 c1
    refine go_iloadn dX12_rowsIn_10 rfl ?_
    refine go_iloadn dX12_rowsIn_11 rfl ?_
    refine go_iloadn dX12_rowsIn_12 rfl ?_
    obtain ⟨x1, ex1, H⟩ := bind_some H
    refine go_callS (vs := [aI v0, aI v2]) (stk := [aI v1]) (o1 := (some (aI x1), h)) mk_X12_has ss_X12_rowsIn_64 dX12_rowsIn_13 rfl rfl (Nat.le_of_ble_eq_true rfl) (Nat.le_of_ble_eq_true rfl) (ok_X12_has ex1) (show Go M_X12_rowsIn (some (aI r), h) 16 [some (aI v0), some (aI v1), some (aI v2)] [aI x1, aI v1] h from ?_)
    refine go_if_eq (tgt := 37) dX12_rowsIn_16 (by decide) (fun c3 => ?_) (fun c3 => ?_)
    · replace H := (gm_ite H).1 c3
      refine go_iconst (v := (0 : Int32)) dX12_rowsIn_37 rfl ?_
      refine go_mask [true, false, true] (loc' := [some (aI v0), none, some (aI v2)]) rfl ?_
      exact okj_X12_rowsIn_38 v0 v2 v1 (0 : Int32) h k Hk H
    · replace H := (gm_ite H).2 c3
      refine go_iloadn dX12_rowsIn_19 rfl ?_
      refine go_if_eq (tgt := 33) dX12_rowsIn_20 (by decide) (fun c4 => ?_) (fun c4 => ?_)
      · replace H := (gm_ite H).1 c4
        refine go_iconst (v := (1 : Int32)) dX12_rowsIn_33 rfl ?_
        refine go_goto (tgt := 38) dX12_rowsIn_34 (by decide) ?_
        refine go_mask [true, false, true] (loc' := [some (aI v0), none, some (aI v2)]) rfl ?_
        exact okj_X12_rowsIn_38 v0 v2 v1 (1 : Int32) h k Hk H
      · replace H := (gm_ite H).2 c4
        refine go_iloadn dX12_rowsIn_23 rfl ?_
        refine go_iloadn dX12_rowsIn_24 rfl ?_
        refine go_iconst (v := (1 : Int32)) dX12_rowsIn_25 rfl ?_
        refine go_isub dX12_rowsIn_26 ?_
        obtain ⟨x2, ex2, H⟩ := bind_some H
        refine go_callS (vs := [aI v0, aI (v2 - (1 : Int32))]) (stk := [aI v1]) (o1 := (some (aI x2), h)) mk_X12_has ss_X12_rowsIn_64 dX12_rowsIn_27 rfl rfl (Nat.le_of_ble_eq_true rfl) (Nat.le_of_ble_eq_true rfl) (ok_X12_has ex2) (show Go M_X12_rowsIn (some (aI r), h) 30 [some (aI v0), some (aI v1), some (aI v2)] [aI x2, aI v1] h from ?_)
        refine go_if_ne (tgt := 37) dX12_rowsIn_30 (by decide) (fun c6 => ?_) (fun c6 => ?_)
        · rw [if_pos c6] at H
          refine go_iconst (v := (0 : Int32)) dX12_rowsIn_37 rfl ?_
          refine go_mask [true, false, true] (loc' := [some (aI v0), none, some (aI v2)]) rfl ?_
          exact okj_X12_rowsIn_38 v0 v2 v1 (0 : Int32) h k Hk H
        · rw [if_neg c6] at H
          refine go_iconst (v := (1 : Int32)) dX12_rowsIn_33 rfl ?_
          refine go_goto (tgt := 38) dX12_rowsIn_34 (by decide) ?_
          refine go_mask [true, false, true] (loc' := [some (aI v0), none, some (aI v2)]) rfl ?_
          exact okj_X12_rowsIn_38 v0 v2 v1 (1 : Int32) h k Hk H
def l_X12_rowsIn_4 (v0 : Int32) (h : Hp) (v1 : Int32) (v2 : Int32) : Option Int32 := loopK FUEL (fun (k : Int32 × Int32 → Option Int32) (s : Int32 × Int32) => b_X12_rowsIn_4 v0 h (fun v1q v2q => k (v1q, v2q)) s.1 s.2) (v1, v2)
theorem okl_X12_rowsIn_4 {r : Int32} (v0 : Int32) (h : Hp) (v1 : Int32) (v2 : Int32) (H : l_X12_rowsIn_4 v0 h v1 v2 = some r) : Go M_X12_rowsIn (some (aI r), h) 4 [some (aI v0), some (aI v1), some (aI v2)] [] h := by
  unfold l_X12_rowsIn_4 at H
  exact go_loop (σ := Int32 × Int32) (body := (fun (k : Int32 × Int32 → Option Int32) (s : Int32 × Int32) => b_X12_rowsIn_4 v0 h (fun v1q v2q => k (v1q, v2q)) s.1 s.2)) (fun s => [some (aI v0), some (aI s.1), some (aI s.2)]) (fun s => h) (fun k s Hk H => okb_X12_rowsIn_4 v0 h (fun v1q v2q => k (v1q, v2q)) s.1 s.2  (fun v1q v2q H => Hk (v1q, v2q) H) H) FUEL (v1, v2) H
def m_X12_rowsIn (v0 : Int32) (h : Hp) : Option Int32 :=
  l_X12_rowsIn_4 v0 h (0 : Int32) (0 : Int32)
set_option maxRecDepth 20000 in
theorem ok_X12_rowsIn {r : Int32} {v0 : Int32} {h : Hp} (H : m_X12_rowsIn v0 h = some r) : Ev M_X12_rowsIn [aI v0] h (some (aI r), h) := by
  show Go M_X12_rowsIn (some (aI r), h) 0 [some (aI v0), none, none] [] h
  unfold m_X12_rowsIn at H
  refine go_iconst (v := (0 : Int32)) dX12_rowsIn_0 rfl ?_
  refine go_istoren (loc2 := [some (aI v0), some (aI (0 : Int32)), none]) dX12_rowsIn_1 rfl (by decide) rfl ?_
  refine go_iconst (v := (0 : Int32)) dX12_rowsIn_2 rfl ?_
  refine go_istoren (loc2 := [some (aI v0), some (aI (0 : Int32)), some (aI (0 : Int32))]) dX12_rowsIn_3 rfl (by decide) rfl ?_
  exact okl_X12_rowsIn_4 v0 h (0 : Int32) (0 : Int32) H
/-! X12_postings -/
def b_X12_postings_4 (v0 : Nat) (h : Hp) (k : Int32 → Int32 → Option Int32) (v1 : Int32) (v2 : Int32) : Option Int32 :=
  (gfI h v0 12 24).bind fun x1 => if x1 ≤ v2 then (some v1) else (rc h v0 12 (m_X12_whereIs v0 v2 h)).bind fun x2 => (m_X12_rowsIn x2 h).bind fun x3 => k (v1 + x3) (v2 + (1 : Int32))
set_option maxRecDepth 20000 in
theorem okb_X12_postings_4 {r : Int32} (v0 : Nat) (h : Hp) (k : Int32 → Int32 → Option Int32) (v1 : Int32) (v2 : Int32) (Hk : ∀ (v1q : Int32) (v2q : Int32), k v1q v2q = some r → Go M_X12_postings (some (aI r), h) 4 [some (aA v0), some (aI v1q), some (aI v2q)] [] h) (H : b_X12_postings_4 v0 h k v1 v2 = some r) : Go M_X12_postings (some (aI r), h) 4 [some (aA v0), some (aI v1), some (aI v2)] [] h := by
  unfold b_X12_postings_4 at H
  refine go_iloadn dX12_postings_4 rfl ?_
  refine go_aloadn dX12_postings_5 rfl ?_
  refine gm_getI fd_X12_253 dX12_postings_6 H (fun x1 H => ?_)
  refine go_icmp_ge (tgt := 29) dX12_postings_9 (by decide) (fun c1 => ?_) (fun c1 => ?_)
  · replace H := (gm_ite H).1 c1
    refine go_iloadn dX12_postings_29 rfl ?_
    obtain rfl := Option.some.inj H
    exact go_ireturn dX12_postings_30 (tyI_int rfl)
  · replace H := (gm_ite H).2 c1
    refine go_iloadn dX12_postings_12 rfl ?_
    refine go_aloadn dX12_postings_13 rfl ?_
    refine go_iloadn dX12_postings_14 rfl ?_
    obtain ⟨c2, x2, ex2, H⟩ := gm_rc H
    refine go_callV (vs := [aI v2]) (stk := [aI v1]) (o1 := (some (aI x2), h)) mk_X12_whereIs sv_X12_postings_278 cl_X12 rfl dX12_postings_15 c2 rfl rfl (Nat.le_of_ble_eq_true rfl) (Nat.le_of_ble_eq_true rfl) (ok_X12_whereIs ex2) (show Go M_X12_postings (some (aI r), h) 18 [some (aA v0), some (aI v1), some (aI v2)] [aI x2, aI v1] h from ?_)
    obtain ⟨x3, ex3, H⟩ := bind_some H
    refine go_callS (vs := [aI x2]) (stk := [aI v1]) (o1 := (some (aI x3), h)) mk_X12_rowsIn ss_X12_postings_281 dX12_postings_18 rfl rfl (Nat.le_of_ble_eq_true rfl) (Nat.le_of_ble_eq_true rfl) (ok_X12_rowsIn ex3) (show Go M_X12_postings (some (aI r), h) 21 [some (aA v0), some (aI v1), some (aI v2)] [aI x3, aI v1] h from ?_)
    refine go_iadd dX12_postings_21 ?_
    refine go_istoren (loc2 := [some (aA v0), some (aI (v1 + x3)), some (aI v2)]) dX12_postings_22 rfl (by decide) rfl ?_
    refine go_iinc (v := (v2 + (1 : Int32))) (loc2 := [some (aA v0), some (aI (v1 + x3)), some (aI (v2 + (1 : Int32)))]) dX12_postings_23 rfl rfl (by decide) rfl ?_
    refine go_goto (tgt := 4) dX12_postings_26 (by decide) ?_
    exact Hk (v1 + x3) (v2 + (1 : Int32)) H
def l_X12_postings_4 (v0 : Nat) (h : Hp) (v1 : Int32) (v2 : Int32) : Option Int32 := loopK FUEL (fun (k : Int32 × Int32 → Option Int32) (s : Int32 × Int32) => b_X12_postings_4 v0 h (fun v1q v2q => k (v1q, v2q)) s.1 s.2) (v1, v2)
theorem okl_X12_postings_4 {r : Int32} (v0 : Nat) (h : Hp) (v1 : Int32) (v2 : Int32) (H : l_X12_postings_4 v0 h v1 v2 = some r) : Go M_X12_postings (some (aI r), h) 4 [some (aA v0), some (aI v1), some (aI v2)] [] h := by
  unfold l_X12_postings_4 at H
  exact go_loop (σ := Int32 × Int32) (body := (fun (k : Int32 × Int32 → Option Int32) (s : Int32 × Int32) => b_X12_postings_4 v0 h (fun v1q v2q => k (v1q, v2q)) s.1 s.2)) (fun s => [some (aA v0), some (aI s.1), some (aI s.2)]) (fun s => h) (fun k s Hk H => okb_X12_postings_4 v0 h (fun v1q v2q => k (v1q, v2q)) s.1 s.2  (fun v1q v2q H => Hk (v1q, v2q) H) H) FUEL (v1, v2) H
def m_X12_postings (v0 : Nat) (h : Hp) : Option Int32 :=
  l_X12_postings_4 v0 h (0 : Int32) (0 : Int32)
set_option maxRecDepth 20000 in
theorem ok_X12_postings {r : Int32} {v0 : Nat} {h : Hp} (H : m_X12_postings v0 h = some r) : Ev M_X12_postings [aA v0] h (some (aI r), h) := by
  show Go M_X12_postings (some (aI r), h) 0 [some (aA v0), none, none] [] h
  unfold m_X12_postings at H
  refine go_iconst (v := (0 : Int32)) dX12_postings_0 rfl ?_
  refine go_istoren (loc2 := [some (aA v0), some (aI (0 : Int32)), none]) dX12_postings_1 rfl (by decide) rfl ?_
  refine go_iconst (v := (0 : Int32)) dX12_postings_2 rfl ?_
  refine go_istoren (loc2 := [some (aA v0), some (aI (0 : Int32)), some (aI (0 : Int32))]) dX12_postings_3 rfl (by decide) rfl ?_
  exact okl_X12_postings_4 v0 h (0 : Int32) (0 : Int32) H
/-! X12_longest -/
def j_X12_longest_51 (v0 : Nat) (v2 : Int32) (s0 : Int32) (h : Hp) (k : Int32 → Int32 → Option Int32) : Option Int32 :=
  k s0 (v2 + (1 : Int32))
set_option maxRecDepth 20000 in
theorem okj_X12_longest_51 {r : Int32} (v0 : Nat) (v2 : Int32) (s0 : Int32) (h : Hp) (k : Int32 → Int32 → Option Int32) (Hk : ∀ (v1q : Int32) (v2q : Int32), k v1q v2q = some r → Go M_X12_longest (some (aI r), h) 4 [some (aA v0), some (aI v1q), some (aI v2q)] [] h) (H : j_X12_longest_51 v0 v2 s0 h k = some r) : Go M_X12_longest (some (aI r), h) 51 [some (aA v0), none, some (aI v2)] [aI s0] h := by
  unfold j_X12_longest_51 at H
  refine go_istoren (loc2 := [some (aA v0), some (aI s0), some (aI v2)]) dX12_longest_51 rfl (by decide) rfl ?_
  refine go_iinc (v := (v2 + (1 : Int32))) (loc2 := [some (aA v0), some (aI s0), some (aI (v2 + (1 : Int32)))]) dX12_longest_52 rfl rfl (by decide) rfl ?_
  refine go_goto (tgt := 4) dX12_longest_55 (by decide) ?_
  exact Hk s0 (v2 + (1 : Int32)) H
def b_X12_longest_4 (v0 : Nat) (h : Hp) (k : Int32 → Int32 → Option Int32) (v1 : Int32) (v2 : Int32) : Option Int32 :=
  (gfR h v0 12 18).bind fun x1 => (alI h x1 (0 : Int32)).bind fun x2 => if x2 ≤ v2 then (some v1) else if v1 = (-1 : Int32) then j_X12_longest_51 v0 v2 v2 h k else (rc h v0 12 (m_X12_versions v0 v2 h)).bind fun x3 => (rc h v0 12 (m_X12_longOf v0 v2 (x3 - (1 : Int32)) h)).bind fun x4 => (rc h v0 12 (m_X12_versions v0 v1 h)).bind fun x5 => (rc h v0 12 (m_X12_longOf v0 v1 (x5 - (1 : Int32)) h)).bind fun x6 => j_X12_longest_51 v0 v2 (if x4 ≤ x6 then v1 else v2) h k
set_option maxRecDepth 20000 in
theorem okb_X12_longest_4 {r : Int32} (v0 : Nat) (h : Hp) (k : Int32 → Int32 → Option Int32) (v1 : Int32) (v2 : Int32) (Hk : ∀ (v1q : Int32) (v2q : Int32), k v1q v2q = some r → Go M_X12_longest (some (aI r), h) 4 [some (aA v0), some (aI v1q), some (aI v2q)] [] h) (H : b_X12_longest_4 v0 h k v1 v2 = some r) : Go M_X12_longest (some (aI r), h) 4 [some (aA v0), some (aI v1), some (aI v2)] [] h := by
  unfold b_X12_longest_4 at H
  refine go_iloadn dX12_longest_4 rfl ?_
  refine go_aloadn dX12_longest_5 rfl ?_
  refine gm_getR fd_X12_35 dX12_longest_6 H (fun x1 H => ?_)
  refine go_iconst (v := (0 : Int32)) dX12_longest_9 rfl ?_
  refine gm_iald dX12_longest_10 H (fun x2 H => ?_)
  refine go_icmp_ge (tgt := 58) dX12_longest_11 (by decide) (fun c1 => ?_) (fun c1 => ?_)
  · replace H := (gm_ite H).1 c1
    refine go_iloadn dX12_longest_58 rfl ?_
    obtain rfl := Option.some.inj H
    exact go_ireturn dX12_longest_59 (tyI_int rfl)
  · replace H := (gm_ite H).2 c1
    refine go_iloadn dX12_longest_14 rfl ?_
    refine go_iconst (v := (-1 : Int32)) dX12_longest_15 rfl ?_
    refine go_icmp_eq (tgt := 46) dX12_longest_16 (by decide) (fun c2 => ?_) (fun c2 => ?_)
    · replace H := (gm_ite H).1 c2
      refine go_iloadn dX12_longest_46 rfl ?_
      refine go_goto (tgt := 51) dX12_longest_47 (by decide) ?_
      refine go_mask [true, false, true] (loc' := [some (aA v0), none, some (aI v2)]) rfl ?_
      exact okj_X12_longest_51 v0 v2 v2 h k Hk H
    · replace H := (gm_ite H).2 c2
      refine go_aloadn dX12_longest_19 rfl ?_
      refine go_iloadn dX12_longest_20 rfl ?_
      refine go_aloadn dX12_longest_21 rfl ?_
      refine go_iloadn dX12_longest_22 rfl ?_
      obtain ⟨c3, x3, ex3, H⟩ := gm_rc H
      refine go_callV (vs := [aI v2]) (stk := [aI v2, aA v0]) (o1 := (some (aI x3), h)) mk_X12_versions sv_X12_longest_259 cl_X12 rfl dX12_longest_23 c3 rfl rfl (Nat.le_of_ble_eq_true rfl) (Nat.le_of_ble_eq_true rfl) (ok_X12_versions ex3) (show Go M_X12_longest (some (aI r), h) 26 [some (aA v0), some (aI v1), some (aI v2)] [aI x3, aI v2, aA v0] h from ?_)
      refine go_iconst (v := (1 : Int32)) dX12_longest_26 rfl ?_
      refine go_isub dX12_longest_27 ?_
      obtain ⟨c4, x4, ex4, H⟩ := gm_rc H
      refine go_callV (vs := [aI v2, aI (x3 - (1 : Int32))]) (stk := []) (o1 := (some (aI x4), h)) mk_X12_longOf sv_X12_longest_269 cl_X12 rfl dX12_longest_28 c4 rfl rfl (Nat.le_of_ble_eq_true rfl) (Nat.le_of_ble_eq_true rfl) (ok_X12_longOf ex4) (show Go M_X12_longest (some (aI r), h) 31 [some (aA v0), some (aI v1), some (aI v2)] [aI x4] h from ?_)
      refine go_aloadn dX12_longest_31 rfl ?_
      refine go_iloadn dX12_longest_32 rfl ?_
      refine go_aloadn dX12_longest_33 rfl ?_
      refine go_iloadn dX12_longest_34 rfl ?_
      obtain ⟨c5, x5, ex5, H⟩ := gm_rc H
      refine go_callV (vs := [aI v1]) (stk := [aI v1, aA v0, aI x4]) (o1 := (some (aI x5), h)) mk_X12_versions sv_X12_longest_259 cl_X12 rfl dX12_longest_35 c5 rfl rfl (Nat.le_of_ble_eq_true rfl) (Nat.le_of_ble_eq_true rfl) (ok_X12_versions ex5) (show Go M_X12_longest (some (aI r), h) 38 [some (aA v0), some (aI v1), some (aI v2)] [aI x5, aI v1, aA v0, aI x4] h from ?_)
      refine go_iconst (v := (1 : Int32)) dX12_longest_38 rfl ?_
      refine go_isub dX12_longest_39 ?_
      obtain ⟨c6, x6, ex6, H⟩ := gm_rc H
      refine go_callV (vs := [aI v1, aI (x5 - (1 : Int32))]) (stk := [aI x4]) (o1 := (some (aI x6), h)) mk_X12_longOf sv_X12_longest_269 cl_X12 rfl dX12_longest_40 c6 rfl rfl (Nat.le_of_ble_eq_true rfl) (Nat.le_of_ble_eq_true rfl) (ok_X12_longOf ex6) (show Go M_X12_longest (some (aI r), h) 43 [some (aA v0), some (aI v1), some (aI v2)] [aI x6, aI x4] h from ?_)
      refine go_icmp_le (tgt := 50) dX12_longest_43 (by decide) (fun c7 => ?_) (fun c7 => ?_)
      · rw [if_pos c7] at H
        refine go_iloadn dX12_longest_50 rfl ?_
        refine go_mask [true, false, true] (loc' := [some (aA v0), none, some (aI v2)]) rfl ?_
        exact okj_X12_longest_51 v0 v2 v1 h k Hk H
      · rw [if_neg c7] at H
        refine go_iloadn dX12_longest_46 rfl ?_
        refine go_goto (tgt := 51) dX12_longest_47 (by decide) ?_
        refine go_mask [true, false, true] (loc' := [some (aA v0), none, some (aI v2)]) rfl ?_
        exact okj_X12_longest_51 v0 v2 v2 h k Hk H
def l_X12_longest_4 (v0 : Nat) (h : Hp) (v1 : Int32) (v2 : Int32) : Option Int32 := loopK FUEL (fun (k : Int32 × Int32 → Option Int32) (s : Int32 × Int32) => b_X12_longest_4 v0 h (fun v1q v2q => k (v1q, v2q)) s.1 s.2) (v1, v2)
theorem okl_X12_longest_4 {r : Int32} (v0 : Nat) (h : Hp) (v1 : Int32) (v2 : Int32) (H : l_X12_longest_4 v0 h v1 v2 = some r) : Go M_X12_longest (some (aI r), h) 4 [some (aA v0), some (aI v1), some (aI v2)] [] h := by
  unfold l_X12_longest_4 at H
  exact go_loop (σ := Int32 × Int32) (body := (fun (k : Int32 × Int32 → Option Int32) (s : Int32 × Int32) => b_X12_longest_4 v0 h (fun v1q v2q => k (v1q, v2q)) s.1 s.2)) (fun s => [some (aA v0), some (aI s.1), some (aI s.2)]) (fun s => h) (fun k s Hk H => okb_X12_longest_4 v0 h (fun v1q v2q => k (v1q, v2q)) s.1 s.2  (fun v1q v2q H => Hk (v1q, v2q) H) H) FUEL (v1, v2) H
def m_X12_longest (v0 : Nat) (h : Hp) : Option Int32 :=
  l_X12_longest_4 v0 h (-1 : Int32) (0 : Int32)
set_option maxRecDepth 20000 in
theorem ok_X12_longest {r : Int32} {v0 : Nat} {h : Hp} (H : m_X12_longest v0 h = some r) : Ev M_X12_longest [aA v0] h (some (aI r), h) := by
  show Go M_X12_longest (some (aI r), h) 0 [some (aA v0), none, none] [] h
  unfold m_X12_longest at H
  refine go_iconst (v := (-1 : Int32)) dX12_longest_0 rfl ?_
  refine go_istoren (loc2 := [some (aA v0), some (aI (-1 : Int32)), none]) dX12_longest_1 rfl (by decide) rfl ?_
  refine go_iconst (v := (0 : Int32)) dX12_longest_2 rfl ?_
  refine go_istoren (loc2 := [some (aA v0), some (aI (-1 : Int32)), some (aI (0 : Int32))]) dX12_longest_3 rfl (by decide) rfl ?_
  exact okl_X12_longest_4 v0 h (-1 : Int32) (0 : Int32) H
/-! X12_isVersion -/
def j_X12_isVersion_28  (s0 : Int32) (h : Hp) : Option Int32 :=
  (zb s0).bind fun x1 => some x1
set_option maxRecDepth 20000 in
theorem okj_X12_isVersion_28 {r : Int32}  (s0 : Int32) (h : Hp) (H : j_X12_isVersion_28 s0 h = some r) : Go M_X12_isVersion (some (aI r), h) 28 [none, none, none] [aI s0] h := by
  unfold j_X12_isVersion_28 at H
  obtain ⟨hz, H⟩ := gm_zb H
  obtain rfl := Option.some.inj H
  exact go_ireturn (x := s0) dX12_isVersion_28 (tyI_bool rfl hz)
def m_X12_isVersion (v0 : Nat) (v1 : Int32) (v2 : Int32) (h : Hp) : Option Int32 :=
  (rc h v0 12 (m_X12_isDoc v0 v1 h)).bind fun x1 => if x1 = 0 then j_X12_isVersion_28 (0 : Int32) h else (rc h v0 12 (m_X12_versions v0 v1 h)).bind fun x2 => (m_X12_in v2 (0 : Int32) (x2 - (1 : Int32)) h).bind fun x3 => j_X12_isVersion_28 (if x3 = 0 then (0 : Int32) else (1 : Int32)) h
set_option maxRecDepth 20000 in
theorem ok_X12_isVersion {r : Int32} {v0 : Nat} {v1 : Int32} {v2 : Int32} {h : Hp} (H : m_X12_isVersion v0 v1 v2 h = some r) : Ev M_X12_isVersion [aA v0, aI v1, aI v2] h (some (aI r), h) := by
  show Go M_X12_isVersion (some (aI r), h) 0 [some (aA v0), some (aI v1), some (aI v2)] [] h
  unfold m_X12_isVersion at H
  refine go_aloadn dX12_isVersion_0 rfl ?_
  refine go_iloadn dX12_isVersion_1 rfl ?_
  obtain ⟨c1, x1, ex1, H⟩ := gm_rc H
  refine go_callV (vs := [aI v1]) (stk := []) (o1 := (some (aI x1), h)) mk_X12_isDoc sv_X12_isVersion_256 cl_X12 rfl dX12_isVersion_2 c1 rfl rfl (Nat.le_of_ble_eq_true rfl) (Nat.le_of_ble_eq_true rfl) (ok_X12_isDoc ex1) (show Go M_X12_isVersion (some (aI r), h) 5 [some (aA v0), some (aI v1), some (aI v2)] [aI x1] h from ?_)
  refine go_if_eq (tgt := 27) dX12_isVersion_5 (by decide) (fun c2 => ?_) (fun c2 => ?_)
  · replace H := (gm_ite H).1 c2
    refine go_iconst (v := (0 : Int32)) dX12_isVersion_27 rfl ?_
    refine go_mask [false, false, false] (loc' := [none, none, none]) rfl ?_
    exact okj_X12_isVersion_28 (0 : Int32) h  H
  · replace H := (gm_ite H).2 c2
    refine go_iloadn dX12_isVersion_8 rfl ?_
    refine go_iconst (v := (0 : Int32)) dX12_isVersion_9 rfl ?_
    refine go_aloadn dX12_isVersion_10 rfl ?_
    refine go_iloadn dX12_isVersion_11 rfl ?_
    obtain ⟨c3, x2, ex2, H⟩ := gm_rc H
    refine go_callV (vs := [aI v1]) (stk := [aI (0 : Int32), aI v2]) (o1 := (some (aI x2), h)) mk_X12_versions sv_X12_isVersion_259 cl_X12 rfl dX12_isVersion_12 c3 rfl rfl (Nat.le_of_ble_eq_true rfl) (Nat.le_of_ble_eq_true rfl) (ok_X12_versions ex2) (show Go M_X12_isVersion (some (aI r), h) 15 [some (aA v0), some (aI v1), some (aI v2)] [aI x2, aI (0 : Int32), aI v2] h from ?_)
    refine go_iconst (v := (1 : Int32)) dX12_isVersion_15 rfl ?_
    refine go_isub dX12_isVersion_16 ?_
    obtain ⟨x3, ex3, H⟩ := bind_some H
    refine go_callS (vs := [aI v2, aI (0 : Int32), aI (x2 - (1 : Int32))]) (stk := []) (o1 := (some (aI x3), h)) mk_X12_in ss_X12_isVersion_72 dX12_isVersion_17 rfl rfl (Nat.le_of_ble_eq_true rfl) (Nat.le_of_ble_eq_true rfl) (ok_X12_in ex3) (show Go M_X12_isVersion (some (aI r), h) 20 [some (aA v0), some (aI v1), some (aI v2)] [aI x3] h from ?_)
    refine go_if_eq (tgt := 27) dX12_isVersion_20 (by decide) (fun c5 => ?_) (fun c5 => ?_)
    · rw [if_pos c5] at H
      refine go_iconst (v := (0 : Int32)) dX12_isVersion_27 rfl ?_
      refine go_mask [false, false, false] (loc' := [none, none, none]) rfl ?_
      exact okj_X12_isVersion_28 (0 : Int32) h  H
    · rw [if_neg c5] at H
      refine go_iconst (v := (1 : Int32)) dX12_isVersion_23 rfl ?_
      refine go_goto (tgt := 28) dX12_isVersion_24 (by decide) ?_
      refine go_mask [false, false, false] (loc' := [none, none, none]) rfl ?_
      exact okj_X12_isVersion_28 (1 : Int32) h  H
