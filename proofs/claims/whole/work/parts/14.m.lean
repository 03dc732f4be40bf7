/-! X7_noteFirstToken -/
def j_X7_noteFirstToken_61 (v0 : Nat)  (h : Hp) : Option Hp :=
  (gfR h v0 7 0).bind fun x1 => (gfI h x1 5 1).bind fun x2 => (rc h v0 7 (m_X7_note v0 (4 : Int32) x2 h)).bind fun x3 => some x3
set_option maxRecDepth 20000 in
theorem okj_X7_noteFirstToken_61 {r : Hp} (v0 : Nat)  (h : Hp) (H : j_X7_noteFirstToken_61 v0 h = some r) : Go M_X7_noteFirstToken (none, r) 61 [some (aA v0), none] [] h := by
  unfold j_X7_noteFirstToken_61 at H
  refine go_aloadn dX7_noteFirstToken_61 rfl ?_
  refine go_iconst (v := (4 : Int32)) dX7_noteFirstToken_62 rfl ?_
  refine go_aloadn dX7_noteFirstToken_63 rfl ?_
  refine gm_getR fd_X7_12 dX7_noteFirstToken_64 H (fun x1 H => ?_)
  refine gm_getI fd_X7_129 dX7_noteFirstToken_67 H (fun x2 H => ?_)
  obtain ⟨c1, x3, ex3, H⟩ := gm_rc H
  refine go_callV (vs := [aI (4 : Int32), aI x2]) (stk := []) (o1 := (none, x3)) mk_X7_note sv_X7_noteFirstToken_87 cl_X7 rfl dX7_noteFirstToken_70 c1 rfl rfl (Nat.le_of_ble_eq_true rfl) (Nat.le_of_ble_eq_true rfl) (ok_X7_note ex3) (show Go M_X7_noteFirstToken (none, r) 73 [some (aA v0), none] [] x3 from ?_)
  obtain rfl := Option.some.inj H
  exact go_return dX7_noteFirstToken_73 rfl
def j_X7_noteFirstToken_34 (v0 : Nat) (v1 : Int32)  (h : Hp) : Option Hp :=
  (gfR h v0 7 1).bind fun x1 => (rc h x1 1 (m_X0_hasDocument x1 v1 h)).bind fun x2 => if x2 = 0 then j_X7_noteFirstToken_61 v0 h else (gfR h v0 7 1).bind fun x3 => (rc h x3 1 (m_X0_latestLength x3 v1 h)).bind fun x4 => (rc h v0 7 (m_X7_isThere v0 v1 x4 h)).bind fun x5 => if ¬ x5 = 0 then (some h) else j_X7_noteFirstToken_61 v0 h
set_option maxRecDepth 20000 in
theorem okj_X7_noteFirstToken_34 {r : Hp} (v0 : Nat) (v1 : Int32)  (h : Hp) (H : j_X7_noteFirstToken_34 v0 v1 h = some r) : Go M_X7_noteFirstToken (none, r) 34 [some (aA v0), some (aI v1)] [] h := by
  unfold j_X7_noteFirstToken_34 at H
  refine go_aloadn dX7_noteFirstToken_34 rfl ?_
  refine gm_getR fd_X7_21 dX7_noteFirstToken_35 H (fun x1 H => ?_)
  refine go_iloadn dX7_noteFirstToken_38 rfl ?_
  obtain ⟨c1, x2, ex2, H⟩ := gm_rc H
  refine go_callV (vs := [aI v1]) (stk := []) (o1 := (some (aI x2), h)) mk_X0_hasDocument sv_X7_noteFirstToken_147 cl_X0 rfl dX7_noteFirstToken_39 c1 rfl rfl (Nat.le_of_ble_eq_true rfl) (Nat.le_of_ble_eq_true rfl) (ok_X0_hasDocument ex2) (show Go M_X7_noteFirstToken (none, r) 42 [some (aA v0), some (aI v1)] [aI x2] h from ?_)
  refine go_if_eq (tgt := 61) dX7_noteFirstToken_42 (by decide) (fun c2 => ?_) (fun c2 => ?_)
  · replace H := (gm_ite H).1 c2
    refine go_mask [true, false] (loc' := [some (aA v0), none]) rfl ?_
    exact okj_X7_noteFirstToken_61 v0 h  H
  · replace H := (gm_ite H).2 c2
    refine go_aloadn dX7_noteFirstToken_45 rfl ?_
    refine go_iloadn dX7_noteFirstToken_46 rfl ?_
    refine go_aloadn dX7_noteFirstToken_47 rfl ?_
    refine gm_getR fd_X7_21 dX7_noteFirstToken_48 H (fun x3 H => ?_)
    refine go_iloadn dX7_noteFirstToken_51 rfl ?_
    obtain ⟨c3, x4, ex4, H⟩ := gm_rc H
    refine go_callV (vs := [aI v1]) (stk := [aI v1, aA v0]) (o1 := (some (aI x4), h)) mk_X0_latestLength sv_X7_noteFirstToken_138 cl_X0 rfl dX7_noteFirstToken_52 c3 rfl rfl (Nat.le_of_ble_eq_true rfl) (Nat.le_of_ble_eq_true rfl) (ok_X0_latestLength ex4) (show Go M_X7_noteFirstToken (none, r) 55 [some (aA v0), some (aI v1)] [aI x4, aI v1, aA v0] h from ?_)
    obtain ⟨c4, x5, ex5, H⟩ := gm_rc H
    refine go_callV (vs := [aI v1, aI x4]) (stk := []) (o1 := (some (aI x5), h)) mk_X7_isThere sv_X7_noteFirstToken_151 cl_X7 rfl dX7_noteFirstToken_55 c4 rfl rfl (Nat.le_of_ble_eq_true rfl) (Nat.le_of_ble_eq_true rfl) (ok_X7_isThere ex5) (show Go M_X7_noteFirstToken (none, r) 58 [some (aA v0), some (aI v1)] [aI x5] h from ?_)
    refine go_if_ne (tgt := 73) dX7_noteFirstToken_58 (by decide) (fun c5 => ?_) (fun c5 => ?_)
    · replace H := (gm_ite H).1 c5
      obtain rfl := Option.some.inj H
      exact go_return dX7_noteFirstToken_73 rfl
    · replace H := (gm_ite H).2 c5
      refine go_mask [true, false] (loc' := [some (aA v0), none]) rfl ?_
      exact okj_X7_noteFirstToken_61 v0 h  H
def m_X7_noteFirstToken (v0 : Nat) (h : Hp) : Option Hp :=
  (gfR h v0 7 0).bind fun x1 => (rc h x1 5 (m_X4_value x1 (0 : Int32) h)).bind fun x2 => (gfR h v0 7 1).bind fun x3 => (rc h x3 1 (m_X0_versionsOf x3 x2 h)).bind fun x4 => if x4 < (10 : Int32) then j_X7_noteFirstToken_34 v0 x2 h else (gfR h v0 7 0).bind fun x5 => (gfI h x5 5 1).bind fun x6 => (rc h v0 7 (m_X7_note v0 (3 : Int32) x6 h)).bind fun x7 => j_X7_noteFirstToken_34 v0 x2 x7
set_option maxRecDepth 20000 in
theorem ok_X7_noteFirstToken {r : Hp} {v0 : Nat} {h : Hp} (H : m_X7_noteFirstToken v0 h = some r) : Ev M_X7_noteFirstToken [aA v0] h (none, r) := by
  show Go M_X7_noteFirstToken (none, r) 0 [some (aA v0), none] [] h
  unfold m_X7_noteFirstToken at H
  refine go_aloadn dX7_noteFirstToken_0 rfl ?_
  refine gm_getR fd_X7_12 dX7_noteFirstToken_1 H (fun x1 H => ?_)
  refine go_iconst (v := (0 : Int32)) dX7_noteFirstToken_4 rfl ?_
  obtain ⟨c1, x2, ex2, H⟩ := gm_rc H
  refine go_callV (vs := [aI (0 : Int32)]) (stk := []) (o1 := (some (aI x2), h)) mk_X4_value sv_X7_noteFirstToken_94 cl_X4 rfl dX7_noteFirstToken_5 c1 rfl rfl (Nat.le_of_ble_eq_true rfl) (Nat.le_of_ble_eq_true rfl) (ok_X4_value ex2) (show Go M_X7_noteFirstToken (none, r) 8 [some (aA v0), none] [aI x2] h from ?_)
  refine go_istoren (loc2 := [some (aA v0), some (aI x2)]) dX7_noteFirstToken_8 rfl (by decide) rfl ?_
  refine go_aloadn dX7_noteFirstToken_9 rfl ?_
  refine gm_getR fd_X7_21 dX7_noteFirstToken_10 H (fun x3 H => ?_)
  refine go_iloadn dX7_noteFirstToken_13 rfl ?_
  obtain ⟨c2, x4, ex4, H⟩ := gm_rc H
  refine go_callV (vs := [aI x2]) (stk := []) (o1 := (some (aI x4), h)) mk_X0_versionsOf sv_X7_noteFirstToken_144 cl_X0 rfl dX7_noteFirstToken_14 c2 rfl rfl (Nat.le_of_ble_eq_true rfl) (Nat.le_of_ble_eq_true rfl) (ok_X0_versionsOf ex4) (show Go M_X7_noteFirstToken (none, r) 17 [some (aA v0), some (aI x2)] [aI x4] h from ?_)
  refine go_bipush (v := (10 : Int32)) dX7_noteFirstToken_17 rfl ?_
  refine go_icmp_lt (tgt := 34) dX7_noteFirstToken_19 (by decide) (fun c3 => ?_) (fun c3 => ?_)
  · replace H := (gm_ite H).1 c3
    exact okj_X7_noteFirstToken_34 v0 x2 h  H
  · replace H := (gm_ite H).2 c3
    refine go_aloadn dX7_noteFirstToken_22 rfl ?_
    refine go_iconst (v := (3 : Int32)) dX7_noteFirstToken_23 rfl ?_
    refine go_aloadn dX7_noteFirstToken_24 rfl ?_
    refine gm_getR fd_X7_12 dX7_noteFirstToken_25 H (fun x5 H => ?_)
    refine gm_getI fd_X7_129 dX7_noteFirstToken_28 H (fun x6 H => ?_)
    obtain ⟨c4, x7, ex7, H⟩ := gm_rc H
    refine go_callV (vs := [aI (3 : Int32), aI x6]) (stk := []) (o1 := (none, x7)) mk_X7_note sv_X7_noteFirstToken_87 cl_X7 rfl dX7_noteFirstToken_31 c4 rfl rfl (Nat.le_of_ble_eq_true rfl) (Nat.le_of_ble_eq_true rfl) (ok_X7_note ex7) (show Go M_X7_noteFirstToken (none, r) 34 [some (aA v0), some (aI x2)] [] x7 from ?_)
    exact okj_X7_noteFirstToken_34 v0 x2 x7  H
/-! X0_tokenAt -/
def m_X0_tokenAt (v0 : Nat) (v1 : Int32) (v2 : Int32) (v3 : Int32) (h : Hp) : Option Int32 :=
  (gfR h v0 1 6).bind fun x1 => (m_X0_slotOf v1 v2 h).bind fun x2 => (m_X5_at x1 ((x2 * (20 : Int32)) + v3) h).bind fun x3 => some x3
set_option maxRecDepth 20000 in
theorem ok_X0_tokenAt {r : Int32} {v0 : Nat} {v1 : Int32} {v2 : Int32} {v3 : Int32} {h : Hp} (H : m_X0_tokenAt v0 v1 v2 v3 h = some r) : Ev M_X0_tokenAt [aA v0, aI v1, aI v2, aI v3] h (some (aI r), h) := by
  show Go M_X0_tokenAt (some (aI r), h) 0 [some (aA v0), some (aI v1), some (aI v2), some (aI v3)] [] h
  unfold m_X0_tokenAt at H
  refine go_aloadn dX0_tokenAt_0 rfl ?_
  refine gm_getR fd_X0_31 dX0_tokenAt_1 H (fun x1 H => ?_)
  refine go_iloadn dX0_tokenAt_4 rfl ?_
  refine go_iloadn dX0_tokenAt_5 rfl ?_
  obtain ⟨x2, ex2, H⟩ := bind_some H
  refine go_callS (vs := [aI v1, aI v2]) (stk := [aA x1]) (o1 := (some (aI x2), h)) mk_X0_slotOf ss_X0_tokenAt_91 dX0_tokenAt_6 rfl rfl (Nat.le_of_ble_eq_true rfl) (Nat.le_of_ble_eq_true rfl) (ok_X0_slotOf ex2) (show Go M_X0_tokenAt (some (aI r), h) 9 [some (aA v0), some (aI v1), some (aI v2), some (aI v3)] [aI x2, aA x1] h from ?_)
  refine go_bipush (v := (20 : Int32)) dX0_tokenAt_9 rfl ?_
  refine go_imul dX0_tokenAt_11 ?_
  refine go_iloadn dX0_tokenAt_12 rfl ?_
  refine go_iadd dX0_tokenAt_13 ?_
  obtain ⟨x3, ex3, H⟩ := bind_some H
  refine go_callS (vs := [aA x1, aI ((x2 * (20 : Int32)) + v3)]) (stk := []) (o1 := (some (aI x3), h)) mk_X5_at ss_X0_tokenAt_87 dX0_tokenAt_14 rfl rfl (Nat.le_of_ble_eq_true rfl) (Nat.le_of_ble_eq_true rfl) (ok_X5_at ex3) (show Go M_X0_tokenAt (some (aI r), h) 17 [some (aA v0), some (aI v1), some (aI v2), some (aI v3)] [aI x3] h from ?_)
  obtain rfl := Option.some.inj H
  exact go_ireturn dX0_tokenAt_17 (tyI_int rfl)
/-! X0_open -/
def b_X0_open_30 (v0 : Nat) (v1 : Int32) (v2 : Int32) (v3 : Int32) (v4 : Int32) (K65 : Hp → Option (Int32 × Hp)) (k : Int32 → Hp → Option (Int32 × Hp)) (v5 : Int32) (h : Hp) : Option (Int32 × Hp) :=
  if v4 ≤ v5 then K65 h else (gfR h v0 1 6).bind fun x1 => (rc h v0 1 (m_X0_tokenAt v0 v1 v2 v5 h)).bind fun x2 => (m_X5_set x1 ((v3 * (20 : Int32)) + v5) x2 h).bind fun x3 => k (v5 + (1 : Int32)) x3
set_option maxRecDepth 20000 in
theorem okb_X0_open_30 {r : (Int32 × Hp)} (v0 : Nat) (v1 : Int32) (v2 : Int32) (v3 : Int32) (v4 : Int32) (K65 : Hp → Option (Int32 × Hp)) (k : Int32 → Hp → Option (Int32 × Hp)) (v5 : Int32) (h : Hp) (HK65 : ∀   (hq : Hp), K65 hq = some r → Go M_X0_open (some (aI r.1), r.2) 65 [some (aA v0), none, none, some (aI v3), some (aI v4), none] [] hq) (Hk : ∀ (v5q : Int32) (hq : Hp), k v5q hq = some r → Go M_X0_open (some (aI r.1), r.2) 30 [some (aA v0), some (aI v1), some (aI v2), some (aI v3), some (aI v4), some (aI v5q)] [] hq) (H : b_X0_open_30 v0 v1 v2 v3 v4 K65 k v5 h = some r) : Go M_X0_open (some (aI r.1), r.2) 30 [some (aA v0), some (aI v1), some (aI v2), some (aI v3), some (aI v4), some (aI v5)] [] h := by
  unfold b_X0_open_30 at H
  refine go_iload dX0_open_30 rfl ?_
  refine go_iload dX0_open_32 rfl ?_
  refine go_icmp_ge (tgt := 65) dX0_open_34 (by decide) (fun c1 => ?_) (fun c1 => ?_)
  · replace H := (gm_ite H).1 c1
    refine go_mask [true, false, false, true, true, false] (loc' := [some (aA v0), none, none, some (aI v3), some (aI v4), none]) rfl ?_
    exact HK65 h H
  · replace H := (gm_ite H).2 c1
    refine go_aloadn dX0_open_37 rfl ?_
    refine gm_getR fd_X0_31 dX0_open_38 H (fun x1 H => ?_)
    refine go_iloadn dX0_open_41 rfl ?_
    refine go_bipush (v := (20 : Int32)) dX0_open_42 rfl ?_
    refine go_imul dX0_open_44 ?_
    refine go_iload dX0_open_45 rfl ?_
    refine go_iadd dX0_open_47 ?_
    refine go_aloadn dX0_open_48 rfl ?_
    refine go_iloadn dX0_open_49 rfl ?_
    refine go_iloadn dX0_open_50 rfl ?_
    refine go_iload dX0_open_51 rfl ?_
    obtain ⟨c2, x2, ex2, H⟩ := gm_rc H
    refine go_callV (vs := [aI v1, aI v2, aI v5]) (stk := [aI ((v3 * (20 : Int32)) + v5), aA x1]) (o1 := (some (aI x2), h)) mk_X0_tokenAt sv_X0_open_124 cl_X0 rfl dX0_open_53 c2 rfl rfl (Nat.le_of_ble_eq_true rfl) (Nat.le_of_ble_eq_true rfl) (ok_X0_tokenAt ex2) (show Go M_X0_open (some (aI r.1), r.2) 56 [some (aA v0), some (aI v1), some (aI v2), some (aI v3), some (aI v4), some (aI v5)] [aI x2, aI ((v3 * (20 : Int32)) + v5), aA x1] h from ?_)
    obtain ⟨x3, ex3, H⟩ := bind_some H
    refine go_callS (vs := [aA x1, aI ((v3 * (20 : Int32)) + v5), aI x2]) (stk := []) (o1 := (none, x3)) mk_X5_set ss_X0_open_50 dX0_open_56 rfl rfl (Nat.le_of_ble_eq_true rfl) (Nat.le_of_ble_eq_true rfl) (ok_X5_set ex3) (show Go M_X0_open (some (aI r.1), r.2) 59 [some (aA v0), some (aI v1), some (aI v2), some (aI v3), some (aI v4), some (aI v5)] [] x3 from ?_)
    refine go_iinc (v := (v5 + (1 : Int32))) (loc2 := [some (aA v0), some (aI v1), some (aI v2), some (aI v3), some (aI v4), some (aI (v5 + (1 : Int32)))]) dX0_open_59 rfl rfl (by decide) rfl ?_
    refine go_goto (tgt := 30) dX0_open_62 (by decide) ?_
    exact Hk (v5 + (1 : Int32)) x3 H
def l_X0_open_30 (v0 : Nat) (v1 : Int32) (v2 : Int32) (v3 : Int32) (v4 : Int32) (K65 : Hp → Option (Int32 × Hp)) (v5 : Int32) (h : Hp) : Option (Int32 × Hp) := loopK FUEL (fun (k : Int32 × Hp → Option (Int32 × Hp)) (s : Int32 × Hp) => b_X0_open_30 v0 v1 v2 v3 v4 K65 (fun v5q hq => k (v5q, hq)) s.1 s.2) (v5, h)
theorem okl_X0_open_30 {r : (Int32 × Hp)} (v0 : Nat) (v1 : Int32) (v2 : Int32) (v3 : Int32) (v4 : Int32) (K65 : Hp → Option (Int32 × Hp)) (v5 : Int32) (h : Hp) (HK65 : ∀   (hq : Hp), K65 hq = some r → Go M_X0_open (some (aI r.1), r.2) 65 [some (aA v0), none, none, some (aI v3), some (aI v4), none] [] hq) (H : l_X0_open_30 v0 v1 v2 v3 v4 K65 v5 h = some r) : Go M_X0_open (some (aI r.1), r.2) 30 [some (aA v0), some (aI v1), some (aI v2), some (aI v3), some (aI v4), some (aI v5)] [] h := by
  unfold l_X0_open_30 at H
  exact go_loop (σ := Int32 × Hp) (body := (fun (k : Int32 × Hp → Option (Int32 × Hp)) (s : Int32 × Hp) => b_X0_open_30 v0 v1 v2 v3 v4 K65 (fun v5q hq => k (v5q, hq)) s.1 s.2)) (fun s => [some (aA v0), some (aI v1), some (aI v2), some (aI v3), some (aI v4), some (aI s.1)]) (fun s => s.2) (fun k s Hk H => okb_X0_open_30 v0 v1 v2 v3 v4 K65 (fun v5q hq => k (v5q, hq)) s.1 s.2 HK65 (fun v5q hq H => Hk (v5q, hq) H) H) FUEL (v5, h) H
def j_X0_open_65 (v0 : Nat) (v3 : Int32) (v4 : Int32)  (h : Hp) : Option (Int32 × Hp) :=
  (gfR h v0 1 5).bind fun x1 => (m_X5_set x1 v3 v4 h).bind fun x2 => some (v3, x2)
set_option maxRecDepth 20000 in
theorem okj_X0_open_65 {r : (Int32 × Hp)} (v0 : Nat) (v3 : Int32) (v4 : Int32)  (h : Hp) (H : j_X0_open_65 v0 v3 v4 h = some r) : Go M_X0_open (some (aI r.1), r.2) 65 [some (aA v0), none, none, some (aI v3), some (aI v4), none] [] h := by
  unfold j_X0_open_65 at H
  refine go_aloadn dX0_open_65 rfl ?_
  refine gm_getR fd_X0_28 dX0_open_66 H (fun x1 H => ?_)
  refine go_iloadn dX0_open_69 rfl ?_
  refine go_iload dX0_open_70 rfl ?_
  obtain ⟨x2, ex2, H⟩ := bind_some H
  refine go_callS (vs := [aA x1, aI v3, aI v4]) (stk := []) (o1 := (none, x2)) mk_X5_set ss_X0_open_50 dX0_open_72 rfl rfl (Nat.le_of_ble_eq_true rfl) (Nat.le_of_ble_eq_true rfl) (ok_X5_set ex2) (show Go M_X0_open (some (aI r.1), r.2) 75 [some (aA v0), none, none, some (aI v3), some (aI v4), none] [] x2 from ?_)
  refine go_iloadn dX0_open_75 rfl ?_
  obtain rfl := Option.some.inj H
  exact go_ireturn dX0_open_76 (tyI_int rfl)
def j_X0_open_25 (v0 : Nat) (v1 : Int32) (v2 : Int32) (v3 : Int32) (s0 : Int32) (h : Hp) : Option (Int32 × Hp) :=
  l_X0_open_30 v0 v1 v2 v3 s0 (fun hz1 => j_X0_open_65 v0 v3 s0 hz1) (0 : Int32) h
set_option maxRecDepth 20000 in
theorem okj_X0_open_25 {r : (Int32 × Hp)} (v0 : Nat) (v1 : Int32) (v2 : Int32) (v3 : Int32) (s0 : Int32) (h : Hp) (H : j_X0_open_25 v0 v1 v2 v3 s0 h = some r) : Go M_X0_open (some (aI r.1), r.2) 25 [some (aA v0), some (aI v1), some (aI v2), some (aI v3), none, none] [aI s0] h := by
  unfold j_X0_open_25 at H
  refine go_istore (loc2 := [some (aA v0), some (aI v1), some (aI v2), some (aI v3), some (aI s0), none]) dX0_open_25 (by decide) rfl ?_
  refine go_iconst (v := (0 : Int32)) dX0_open_27 rfl ?_
  refine go_istore (loc2 := [some (aA v0), some (aI v1), some (aI v2), some (aI v3), some (aI s0), some (aI (0 : Int32))]) dX0_open_28 (by decide) rfl ?_
  refine okl_X0_open_30 v0 v1 v2 v3 s0 (fun hz1 => j_X0_open_65 v0 v3 s0 hz1) (0 : Int32) h ?_ H
  · intro hz1 H
    exact okj_X0_open_65 v0 v3 s0 hz1  H
def m_X0_open (v0 : Nat) (v1 : Int32) (v2 : Int32) (h : Hp) : Option (Int32 × Hp) :=
  (rc h v0 1 (m_X0_versionsOf v0 v1 h)).bind fun x1 => (m_X0_slotOf v1 x1 h).bind fun x2 => if ¬ v2 = (-1 : Int32) then ((rc h v0 1 (m_X0_lengthOf v0 v1 v2 h)).bind fun x3 => j_X0_open_25 v0 v1 v2 x2 x3 h) else j_X0_open_25 v0 v1 v2 x2 (0 : Int32) h
set_option maxRecDepth 20000 in
theorem ok_X0_open {r : (Int32 × Hp)} {v0 : Nat} {v1 : Int32} {v2 : Int32} {h : Hp} (H : m_X0_open v0 v1 v2 h = some r) : Ev M_X0_open [aA v0, aI v1, aI v2] h (some (aI r.1), r.2) := by
  show Go M_X0_open (some (aI r.1), r.2) 0 [some (aA v0), some (aI v1), some (aI v2), none, none, none] [] h
  unfold m_X0_open at H
  refine go_iloadn dX0_open_0 rfl ?_
  refine go_aloadn dX0_open_1 rfl ?_
  refine go_iloadn dX0_open_2 rfl ?_
  obtain ⟨c1, x1, ex1, H⟩ := gm_rc H
  refine go_callV (vs := [aI v1]) (stk := [aI v1]) (o1 := (some (aI x1), h)) mk_X0_versionsOf sv_X0_open_76 cl_X0 rfl dX0_open_3 c1 rfl rfl (Nat.le_of_ble_eq_true rfl) (Nat.le_of_ble_eq_true rfl) (ok_X0_versionsOf ex1) (show Go M_X0_open (some (aI r.1), r.2) 6 [some (aA v0), some (aI v1), some (aI v2), none, none, none] [aI x1, aI v1] h from ?_)
  obtain ⟨x2, ex2, H⟩ := bind_some H
  refine go_callS (vs := [aI v1, aI x1]) (stk := []) (o1 := (some (aI x2), h)) mk_X0_slotOf ss_X0_open_91 dX0_open_6 rfl rfl (Nat.le_of_ble_eq_true rfl) (Nat.le_of_ble_eq_true rfl) (ok_X0_slotOf ex2) (show Go M_X0_open (some (aI r.1), r.2) 9 [some (aA v0), some (aI v1), some (aI v2), none, none, none] [aI x2] h from ?_)
  refine go_istoren (loc2 := [some (aA v0), some (aI v1), some (aI v2), some (aI x2), none, none]) dX0_open_9 rfl (by decide) rfl ?_
  refine go_iloadn dX0_open_10 rfl ?_
  refine go_iconst (v := (-1 : Int32)) dX0_open_11 rfl ?_
  refine go_icmp_ne (tgt := 19) dX0_open_12 (by decide) (fun c3 => ?_) (fun c3 => ?_)
  · replace H := (gm_ite H).1 c3
    refine go_aloadn dX0_open_19 rfl ?_
    refine go_iloadn dX0_open_20 rfl ?_
    refine go_iloadn dX0_open_21 rfl ?_
    obtain ⟨c4, x3, ex3, H⟩ := gm_rc H
    refine go_callV (vs := [aI v1, aI v2]) (stk := []) (o1 := (some (aI x3), h)) mk_X0_lengthOf sv_X0_open_84 cl_X0 rfl dX0_open_22 c4 rfl rfl (Nat.le_of_ble_eq_true rfl) (Nat.le_of_ble_eq_true rfl) (ok_X0_lengthOf ex3) (show Go M_X0_open (some (aI r.1), r.2) 25 [some (aA v0), some (aI v1), some (aI v2), some (aI x2), none, none] [aI x3] h from ?_)
    exact okj_X0_open_25 v0 v1 v2 x2 x3 h  H
  · replace H := (gm_ite H).2 c3
    refine go_iconst (v := (0 : Int32)) dX0_open_15 rfl ?_
    refine go_goto (tgt := 25) dX0_open_16 (by decide) ?_
    exact okj_X0_open_25 v0 v1 v2 x2 (0 : Int32) h  H
/-! X0_newToken -/
def m_X0_newToken (v0 : Nat) (v1 : Int32) (v2 : Int32) (h : Hp) : Option (Int32 × Hp) :=
  (gfI h v0 1 1).bind fun x1 => if x1 < (340 : Int32) then ((gfR h v0 1 7).bind fun x2 => (m_X5_set x2 x1 v2 h).bind fun x3 => (gfR x3 v0 1 8).bind fun x4 => (m_X5_set x4 x1 v1 x3).bind fun x5 => (gfR x5 v0 1 9).bind fun x6 => (m_X5_set x6 x1 (0 : Int32) x5).bind fun x7 => (gfI x7 v0 1 1).bind fun x8 => (pfI x7 v0 1 1 (x8 + (1 : Int32))).bind fun hh1 => some (x1, hh1)) else some ((0 : Int32), h)
set_option maxRecDepth 20000 in
theorem ok_X0_newToken {r : (Int32 × Hp)} {v0 : Nat} {v1 : Int32} {v2 : Int32} {h : Hp} (H : m_X0_newToken v0 v1 v2 h = some r) : Ev M_X0_newToken [aA v0, aI v1, aI v2] h (some (aI r.1), r.2) := by
  show Go M_X0_newToken (some (aI r.1), r.2) 0 [some (aA v0), some (aI v1), some (aI v2), none] [] h
  unfold m_X0_newToken at H
  refine go_aloadn dX0_newToken_0 rfl ?_
  refine gm_getI fd_X0_15 dX0_newToken_1 H (fun x1 H => ?_)
  refine go_istoren (loc2 := [some (aA v0), some (aI v1), some (aI v2), some (aI x1)]) dX0_newToken_4 rfl (by decide) rfl ?_
  refine go_iloadn dX0_newToken_5 rfl ?_
  refine go_sipush (v := (340 : Int32)) dX0_newToken_6 rfl ?_
  refine go_icmp_lt (tgt := 14) dX0_newToken_9 (by decide) (fun c1 => ?_) (fun c1 => ?_)
  · replace H := (gm_ite H).1 c1
    refine go_aloadn dX0_newToken_14 rfl ?_
    refine gm_getR fd_X0_34 dX0_newToken_15 H (fun x2 H => ?_)
    refine go_iloadn dX0_newToken_18 rfl ?_
    refine go_iloadn dX0_newToken_19 rfl ?_
    obtain ⟨x3, ex3, H⟩ := bind_some H
    refine go_callS (vs := [aA x2, aI x1, aI v2]) (stk := []) (o1 := (none, x3)) mk_X5_set ss_X0_newToken_50 dX0_newToken_20 rfl rfl (Nat.le_of_ble_eq_true rfl) (Nat.le_of_ble_eq_true rfl) (ok_X5_set ex3) (show Go M_X0_newToken (some (aI r.1), r.2) 23 [some (aA v0), some (aI v1), some (aI v2), some (aI x1)] [] x3 from ?_)
    refine go_aloadn dX0_newToken_23 rfl ?_
    refine gm_getR fd_X0_37 dX0_newToken_24 H (fun x4 H => ?_)
    refine go_iloadn dX0_newToken_27 rfl ?_
    refine go_iloadn dX0_newToken_28 rfl ?_
    obtain ⟨x5, ex5, H⟩ := bind_some H
    refine go_callS (vs := [aA x4, aI x1, aI v1]) (stk := []) (o1 := (none, x5)) mk_X5_set ss_X0_newToken_50 dX0_newToken_29 rfl rfl (Nat.le_of_ble_eq_true rfl) (Nat.le_of_ble_eq_true rfl) (ok_X5_set ex5) (show Go M_X0_newToken (some (aI r.1), r.2) 32 [some (aA v0), some (aI v1), some (aI v2), some (aI x1)] [] x5 from ?_)
    refine go_aloadn dX0_newToken_32 rfl ?_
    refine gm_getR fd_X0_40 dX0_newToken_33 H (fun x6 H => ?_)
    refine go_iloadn dX0_newToken_36 rfl ?_
    refine go_iconst (v := (0 : Int32)) dX0_newToken_37 rfl ?_
    obtain ⟨x7, ex7, H⟩ := bind_some H
    refine go_callS (vs := [aA x6, aI x1, aI (0 : Int32)]) (stk := []) (o1 := (none, x7)) mk_X5_set ss_X0_newToken_50 dX0_newToken_38 rfl rfl (Nat.le_of_ble_eq_true rfl) (Nat.le_of_ble_eq_true rfl) (ok_X5_set ex7) (show Go M_X0_newToken (some (aI r.1), r.2) 41 [some (aA v0), some (aI v1), some (aI v2), some (aI x1)] [] x7 from ?_)
    refine go_aloadn dX0_newToken_41 rfl ?_
    refine go_dupA dX0_newToken_42 ?_
    refine gm_getI fd_X0_15 dX0_newToken_43 H (fun x8 H => ?_)
    refine go_iconst (v := (1 : Int32)) dX0_newToken_46 rfl ?_
    refine go_iadd dX0_newToken_47 ?_
    refine gm_putI fd_X0_15 (Or.inl rfl) dX0_newToken_48 H (fun hh1 H => ?_)
    refine go_iloadn dX0_newToken_51 rfl ?_
    obtain rfl := Option.some.inj H
    exact go_ireturn dX0_newToken_52 (tyI_int rfl)
  · replace H := (gm_ite H).2 c1
    refine go_iconst (v := (0 : Int32)) dX0_newToken_12 rfl ?_
    obtain rfl := Option.some.inj H
    exact go_ireturn dX0_newToken_13 (tyI_int rfl)
/-! X0_insert -/
def b_X0_insert_32 (v0 : Nat) (v1 : Int32) (v2 : Int32) (v3 : Int32) (v4 : Int32) (K74 : Hp → Option Hp) (k : Int32 → Hp → Option Hp) (v5 : Int32) (h : Hp) : Option Hp :=
  if v5 ≤ v2 then K74 h else (gfR h v0 1 6).bind fun x1 => (gfR h v0 1 6).bind fun x2 => (m_X5_at x2 (((v1 * (20 : Int32)) + v5) - (1 : Int32)) h).bind fun x3 => (m_X5_set x1 ((v1 * (20 : Int32)) + v5) x3 h).bind fun x4 => k (v5 + (-1 : Int32)) x4
set_option maxRecDepth 20000 in
theorem okb_X0_insert_32 {r : Hp} (v0 : Nat) (v1 : Int32) (v2 : Int32) (v3 : Int32) (v4 : Int32) (K74 : Hp → Option Hp) (k : Int32 → Hp → Option Hp) (v5 : Int32) (h : Hp) (HK74 : ∀   (hq : Hp), K74 hq = some r → Go M_X0_insert (none, r) 74 [some (aA v0), some (aI v1), some (aI v2), some (aI v3), some (aI v4), none] [] hq) (Hk : ∀ (v5q : Int32) (hq : Hp), k v5q hq = some r → Go M_X0_insert (none, r) 32 [some (aA v0), some (aI v1), some (aI v2), some (aI v3), some (aI v4), some (aI v5q)] [] hq) (H : b_X0_insert_32 v0 v1 v2 v3 v4 K74 k v5 h = some r) : Go M_X0_insert (none, r) 32 [some (aA v0), some (aI v1), some (aI v2), some (aI v3), some (aI v4), some (aI v5)] [] h := by
  unfold b_X0_insert_32 at H
  refine go_iload dX0_insert_32 rfl ?_
  refine go_iloadn dX0_insert_34 rfl ?_
  refine go_icmp_le (tgt := 74) dX0_insert_35 (by decide) (fun c1 => ?_) (fun c1 => ?_)
  · replace H := (gm_ite H).1 c1
    refine go_mask [true, true, true, true, true, false] (loc' := [some (aA v0), some (aI v1), some (aI v2), some (aI v3), some (aI v4), none]) rfl ?_
    exact HK74 h H
  · replace H := (gm_ite H).2 c1
    refine go_aloadn dX0_insert_38 rfl ?_
    refine gm_getR fd_X0_31 dX0_insert_39 H (fun x1 H => ?_)
    refine go_iloadn dX0_insert_42 rfl ?_
    refine go_bipush (v := (20 : Int32)) dX0_insert_43 rfl ?_
    refine go_imul dX0_insert_45 ?_
    refine go_iload dX0_insert_46 rfl ?_
    refine go_iadd dX0_insert_48 ?_
    refine go_aloadn dX0_insert_49 rfl ?_
    refine gm_getR fd_X0_31 dX0_insert_50 H (fun x2 H => ?_)
    refine go_iloadn dX0_insert_53 rfl ?_
    refine go_bipush (v := (20 : Int32)) dX0_insert_54 rfl ?_
    refine go_imul dX0_insert_56 ?_
    refine go_iload dX0_insert_57 rfl ?_
    refine go_iadd dX0_insert_59 ?_
    refine go_iconst (v := (1 : Int32)) dX0_insert_60 rfl ?_
    refine go_isub dX0_insert_61 ?_
    obtain ⟨x3, ex3, H⟩ := bind_some H
    refine go_callS (vs := [aA x2, aI (((v1 * (20 : Int32)) + v5) - (1 : Int32))]) (stk := [aI ((v1 * (20 : Int32)) + v5), aA x1]) (o1 := (some (aI x3), h)) mk_X5_at ss_X0_insert_87 dX0_insert_62 rfl rfl (Nat.le_of_ble_eq_true rfl) (Nat.le_of_ble_eq_true rfl) (ok_X5_at ex3) (show Go M_X0_insert (none, r) 65 [some (aA v0), some (aI v1), some (aI v2), some (aI v3), some (aI v4), some (aI v5)] [aI x3, aI ((v1 * (20 : Int32)) + v5), aA x1] h from ?_)
    obtain ⟨x4, ex4, H⟩ := bind_some H
    refine go_callS (vs := [aA x1, aI ((v1 * (20 : Int32)) + v5), aI x3]) (stk := []) (o1 := (none, x4)) mk_X5_set ss_X0_insert_50 dX0_insert_65 rfl rfl (Nat.le_of_ble_eq_true rfl) (Nat.le_of_ble_eq_true rfl) (ok_X5_set ex4) (show Go M_X0_insert (none, r) 68 [some (aA v0), some (aI v1), some (aI v2), some (aI v3), some (aI v4), some (aI v5)] [] x4 from ?_)
    refine go_iinc (v := (v5 + (-1 : Int32))) (loc2 := [some (aA v0), some (aI v1), some (aI v2), some (aI v3), some (aI v4), some (aI (v5 + (-1 : Int32)))]) dX0_insert_68 rfl rfl (by decide) rfl ?_
    refine go_goto (tgt := 32) dX0_insert_71 (by decide) ?_
    exact Hk (v5 + (-1 : Int32)) x4 H
def l_X0_insert_32 (v0 : Nat) (v1 : Int32) (v2 : Int32) (v3 : Int32) (v4 : Int32) (K74 : Hp → Option Hp) (v5 : Int32) (h : Hp) : Option Hp := loopK FUEL (fun (k : Int32 × Hp → Option Hp) (s : Int32 × Hp) => b_X0_insert_32 v0 v1 v2 v3 v4 K74 (fun v5q hq => k (v5q, hq)) s.1 s.2) (v5, h)
theorem okl_X0_insert_32 {r : Hp} (v0 : Nat) (v1 : Int32) (v2 : Int32) (v3 : Int32) (v4 : Int32) (K74 : Hp → Option Hp) (v5 : Int32) (h : Hp) (HK74 : ∀   (hq : Hp), K74 hq = some r → Go M_X0_insert (none, r) 74 [some (aA v0), some (aI v1), some (aI v2), some (aI v3), some (aI v4), none] [] hq) (H : l_X0_insert_32 v0 v1 v2 v3 v4 K74 v5 h = some r) : Go M_X0_insert (none, r) 32 [some (aA v0), some (aI v1), some (aI v2), some (aI v3), some (aI v4), some (aI v5)] [] h := by
  unfold l_X0_insert_32 at H
  exact go_loop (σ := Int32 × Hp) (body := (fun (k : Int32 × Hp → Option Hp) (s : Int32 × Hp) => b_X0_insert_32 v0 v1 v2 v3 v4 K74 (fun v5q hq => k (v5q, hq)) s.1 s.2)) (fun s => [some (aA v0), some (aI v1), some (aI v2), some (aI v3), some (aI v4), some (aI s.1)]) (fun s => s.2) (fun k s Hk H => okb_X0_insert_32 v0 v1 v2 v3 v4 K74 (fun v5q hq => k (v5q, hq)) s.1 s.2 HK74 (fun v5q hq H => Hk (v5q, hq) H) H) FUEL (v5, h) H
def j_X0_insert_74 (v0 : Nat) (v1 : Int32) (v2 : Int32) (v3 : Int32) (v4 : Int32)  (h : Hp) : Option Hp :=
  (gfR h v0 1 6).bind fun x1 => (m_X5_set x1 ((v1 * (20 : Int32)) + v2) v3 h).bind fun x2 => (gfR x2 v0 1 5).bind fun x3 => (m_X5_set x3 v1 (v4 + (1 : Int32)) x2).bind fun x4 => some x4
set_option maxRecDepth 20000 in
theorem okj_X0_insert_74 {r : Hp} (v0 : Nat) (v1 : Int32) (v2 : Int32) (v3 : Int32) (v4 : Int32)  (h : Hp) (H : j_X0_insert_74 v0 v1 v2 v3 v4 h = some r) : Go M_X0_insert (none, r) 74 [some (aA v0), some (aI v1), some (aI v2), some (aI v3), some (aI v4), none] [] h := by
  unfold j_X0_insert_74 at H
  refine go_aloadn dX0_insert_74 rfl ?_
  refine gm_getR fd_X0_31 dX0_insert_75 H (fun x1 H => ?_)
  refine go_iloadn dX0_insert_78 rfl ?_
  refine go_bipush (v := (20 : Int32)) dX0_insert_79 rfl ?_
  refine go_imul dX0_insert_81 ?_
  refine go_iloadn dX0_insert_82 rfl ?_
  refine go_iadd dX0_insert_83 ?_
  refine go_iloadn dX0_insert_84 rfl ?_
  obtain ⟨x2, ex2, H⟩ := bind_some H
  refine go_callS (vs := [aA x1, aI ((v1 * (20 : Int32)) + v2), aI v3]) (stk := []) (o1 := (none, x2)) mk_X5_set ss_X0_insert_50 dX0_insert_85 rfl rfl (Nat.le_of_ble_eq_true rfl) (Nat.le_of_ble_eq_true rfl) (ok_X5_set ex2) (show Go M_X0_insert (none, r) 88 [some (aA v0), some (aI v1), some (aI v2), some (aI v3), some (aI v4), none] [] x2 from ?_)
  refine go_aloadn dX0_insert_88 rfl ?_
  refine gm_getR fd_X0_28 dX0_insert_89 H (fun x3 H => ?_)
  refine go_iloadn dX0_insert_92 rfl ?_
  refine go_iload dX0_insert_93 rfl ?_
  refine go_iconst (v := (1 : Int32)) dX0_insert_95 rfl ?_
  refine go_iadd dX0_insert_96 ?_
  obtain ⟨x4, ex4, H⟩ := bind_some H
  refine go_callS (vs := [aA x3, aI v1, aI (v4 + (1 : Int32))]) (stk := []) (o1 := (none, x4)) mk_X5_set ss_X0_insert_50 dX0_insert_97 rfl rfl (Nat.le_of_ble_eq_true rfl) (Nat.le_of_ble_eq_true rfl) (ok_X5_set ex4) (show Go M_X0_insert (none, r) 100 [some (aA v0), some (aI v1), some (aI v2), some (aI v3), some (aI v4), none] [] x4 from ?_)
  obtain rfl := Option.some.inj H
  exact go_return dX0_insert_100 rfl
def m_X0_insert (v0 : Nat) (v1 : Int32) (v2 : Int32) (v3 : Int32) (h : Hp) : Option Hp :=
  (gfR h v0 1 5).bind fun x1 => (m_X5_at x1 v1 h).bind fun x2 => if (20 : Int32) ≤ x2 then (some h) else if v2 < 0 then (some h) else if v2 ≤ x2 then (l_X0_insert_32 v0 v1 v2 v3 x2 (fun hz3 => j_X0_insert_74 v0 v1 v2 v3 x2 hz3) x2 h) else some h
set_option maxRecDepth 20000 in
theorem ok_X0_insert {r : Hp} {v0 : Nat} {v1 : Int32} {v2 : Int32} {v3 : Int32} {h : Hp} (H : m_X0_insert v0 v1 v2 v3 h = some r) : Ev M_X0_insert [aA v0, aI v1, aI v2, aI v3] h (none, r) := by
  show Go M_X0_insert (none, r) 0 [some (aA v0), some (aI v1), some (aI v2), some (aI v3), none, none] [] h
  unfold m_X0_insert at H
  refine go_aloadn dX0_insert_0 rfl ?_
  refine gm_getR fd_X0_28 dX0_insert_1 H (fun x1 H => ?_)
  refine go_iloadn dX0_insert_4 rfl ?_
  obtain ⟨x2, ex2, H⟩ := bind_some H
  refine go_callS (vs := [aA x1, aI v1]) (stk := []) (o1 := (some (aI x2), h)) mk_X5_at ss_X0_insert_87 dX0_insert_5 rfl rfl (Nat.le_of_ble_eq_true rfl) (Nat.le_of_ble_eq_true rfl) (ok_X5_at ex2) (show Go M_X0_insert (none, r) 8 [some (aA v0), some (aI v1), some (aI v2), some (aI v3), none, none] [aI x2] h from ?_)
  refine go_istore (loc2 := [some (aA v0), some (aI v1), some (aI v2), some (aI v3), some (aI x2), none]) dX0_insert_8 (by decide) rfl ?_
  refine go_iload dX0_insert_10 rfl ?_
  refine go_bipush (v := (20 : Int32)) dX0_insert_12 rfl ?_
  refine go_icmp_ge (tgt := 27) dX0_insert_14 (by decide) (fun c2 => ?_) (fun c2 => ?_)
  · replace H := (gm_ite H).1 c2
    obtain rfl := Option.some.inj H
    exact go_return dX0_insert_27 rfl
  · replace H := (gm_ite H).2 c2
    refine go_iloadn dX0_insert_17 rfl ?_
    refine go_if_lt (tgt := 27) dX0_insert_18 (by decide) (fun c3 => ?_) (fun c3 => ?_)
    · replace H := (gm_ite H).1 c3
      obtain rfl := Option.some.inj H
      exact go_return dX0_insert_27 rfl
    · replace H := (gm_ite H).2 c3
      refine go_iloadn dX0_insert_21 rfl ?_
      refine go_iload dX0_insert_22 rfl ?_
      refine go_icmp_le (tgt := 28) dX0_insert_24 (by decide) (fun c4 => ?_) (fun c4 => ?_)
      · replace H := (gm_ite H).1 c4
        refine go_iload dX0_insert_28 rfl ?_
        refine go_istore (loc2 := [some (aA v0), some (aI v1), some (aI v2), some (aI v3), some (aI x2), some (aI x2)]) dX0_insert_30 (by decide) rfl ?_
        refine okl_X0_insert_32 v0 v1 v2 v3 x2 (fun hz3 => j_X0_insert_74 v0 v1 v2 v3 x2 hz3) x2 h ?_ H
        · intro hz3 H
          exact okj_X0_insert_74 v0 v1 v2 v3 x2 hz3  H
      · replace H := (gm_ite H).2 c4
        obtain rfl := Option.some.inj H
        exact go_return dX0_insert_27 rfl
/-! X0_close -/
def b_X0_close_10 (v0 : Nat) (v1 : Int32) (v2 : Int32) (v3 : Int32) (v4 : Int32) (K68 : Hp → Option Hp) (k : Int32 → Hp → Option Hp) (v5 : Int32) (h : Hp) : Option Hp :=
  (gfR h v0 1 5).bind fun x1 => (m_X5_at x1 v2 h).bind fun x2 => if x2 ≤ v5 then K68 h else (gfR h v0 1 6).bind fun x3 => (m_X5_at x3 ((v2 * (20 : Int32)) + v5) h).bind fun x4 => (gfR h v0 1 9).bind fun x5 => (gfR h v0 1 9).bind fun x6 => (m_X5_at x6 x4 h).bind fun x7 => (m_X5_set x5 x4 (x7 ||| (ishlF (1 : Int32) v4)) h).bind fun x8 => k (v5 + (1 : Int32)) x8
set_option maxRecDepth 20000 in
theorem okb_X0_close_10 {r : Hp} (v0 : Nat) (v1 : Int32) (v2 : Int32) (v3 : Int32) (v4 : Int32) (K68 : Hp → Option Hp) (k : Int32 → Hp → Option Hp) (v5 : Int32) (h : Hp) (HK68 : ∀   (hq : Hp), K68 hq = some r → Go M_X0_close (none, r) 68 [some (aA v0), some (aI v1), some (aI v2), some (aI v3), some (aI v4), none, none] [] hq) (Hk : ∀ (v5q : Int32) (hq : Hp), k v5q hq = some r → Go M_X0_close (none, r) 10 [some (aA v0), some (aI v1), some (aI v2), some (aI v3), some (aI v4), some (aI v5q), none] [] hq) (H : b_X0_close_10 v0 v1 v2 v3 v4 K68 k v5 h = some r) : Go M_X0_close (none, r) 10 [some (aA v0), some (aI v1), some (aI v2), some (aI v3), some (aI v4), some (aI v5), none] [] h := by
  unfold b_X0_close_10 at H
  refine go_iload dX0_close_10 rfl ?_
  refine go_aloadn dX0_close_12 rfl ?_
  refine gm_getR fd_X0_28 dX0_close_13 H (fun x1 H => ?_)
  refine go_iloadn dX0_close_16 rfl ?_
  obtain ⟨x2, ex2, H⟩ := bind_some H
  refine go_callS (vs := [aA x1, aI v2]) (stk := [aI v5]) (o1 := (some (aI x2), h)) mk_X5_at ss_X0_close_87 dX0_close_17 rfl rfl (Nat.le_of_ble_eq_true rfl) (Nat.le_of_ble_eq_true rfl) (ok_X5_at ex2) (show Go M_X0_close (none, r) 20 [some (aA v0), some (aI v1), some (aI v2), some (aI v3), some (aI v4), some (aI v5), none] [aI x2, aI v5] h from ?_)
  refine go_icmp_ge (tgt := 68) dX0_close_20 (by decide) (fun c2 => ?_) (fun c2 => ?_)
  · replace H := (gm_ite H).1 c2
    refine go_mask [true, true, true, true, true, false, false] (loc' := [some (aA v0), some (aI v1), some (aI v2), some (aI v3), some (aI v4), none, none]) rfl ?_
    exact HK68 h H
  · replace H := (gm_ite H).2 c2
    refine go_aloadn dX0_close_23 rfl ?_
    refine gm_getR fd_X0_31 dX0_close_24 H (fun x3 H => ?_)
    refine go_iloadn dX0_close_27 rfl ?_
    refine go_bipush (v := (20 : Int32)) dX0_close_28 rfl ?_
    refine go_imul dX0_close_30 ?_
    refine go_iload dX0_close_31 rfl ?_
    refine go_iadd dX0_close_33 ?_
    obtain ⟨x4, ex4, H⟩ := bind_some H
    refine go_callS (vs := [aA x3, aI ((v2 * (20 : Int32)) + v5)]) (stk := []) (o1 := (some (aI x4), h)) mk_X5_at ss_X0_close_87 dX0_close_34 rfl rfl (Nat.le_of_ble_eq_true rfl) (Nat.le_of_ble_eq_true rfl) (ok_X5_at ex4) (show Go M_X0_close (none, r) 37 [some (aA v0), some (aI v1), some (aI v2), some (aI v3), some (aI v4), some (aI v5), none] [aI x4] h from ?_)
    refine go_istore (loc2 := [some (aA v0), some (aI v1), some (aI v2), some (aI v3), some (aI v4), some (aI v5), some (aI x4)]) dX0_close_37 (by decide) rfl ?_
    refine go_aloadn dX0_close_39 rfl ?_
    refine gm_getR fd_X0_40 dX0_close_40 H (fun x5 H => ?_)
    refine go_iload dX0_close_43 rfl ?_
    refine go_aloadn dX0_close_45 rfl ?_
    refine gm_getR fd_X0_40 dX0_close_46 H (fun x6 H => ?_)
    refine go_iload dX0_close_49 rfl ?_
    obtain ⟨x7, ex7, H⟩ := bind_some H
    refine go_callS (vs := [aA x6, aI x4]) (stk := [aI x4, aA x5]) (o1 := (some (aI x7), h)) mk_X5_at ss_X0_close_87 dX0_close_51 rfl rfl (Nat.le_of_ble_eq_true rfl) (Nat.le_of_ble_eq_true rfl) (ok_X5_at ex7) (show Go M_X0_close (none, r) 54 [some (aA v0), some (aI v1), some (aI v2), some (aI v3), some (aI v4), some (aI v5), some (aI x4)] [aI x7, aI x4, aA x5] h from ?_)
    refine go_iconst (v := (1 : Int32)) dX0_close_54 rfl ?_
    refine go_iload dX0_close_55 rfl ?_
    refine go_ishl dX0_close_57 ?_
    refine go_ior dX0_close_58 ?_
    obtain ⟨x8, ex8, H⟩ := bind_some H
    refine go_callS (vs := [aA x5, aI x4, aI (x7 ||| (ishlF (1 : Int32) v4))]) (stk := []) (o1 := (none, x8)) mk_X5_set ss_X0_close_50 dX0_close_59 rfl rfl (Nat.le_of_ble_eq_true rfl) (Nat.le_of_ble_eq_true rfl) (ok_X5_set ex8) (show Go M_X0_close (none, r) 62 [some (aA v0), some (aI v1), some (aI v2), some (aI v3), some (aI v4), some (aI v5), some (aI x4)] [] x8 from ?_)
    refine go_iinc (v := (v5 + (1 : Int32))) (loc2 := [some (aA v0), some (aI v1), some (aI v2), some (aI v3), some (aI v4), some (aI (v5 + (1 : Int32))), some (aI x4)]) dX0_close_62 rfl rfl (by decide) rfl ?_
    refine go_goto (tgt := 10) dX0_close_65 (by decide) ?_
    refine go_mask [true, true, true, true, true, true, false] (loc' := [some (aA v0), some (aI v1), some (aI v2), some (aI v3), some (aI v4), some (aI (v5 + (1 : Int32))), none]) rfl ?_
    exact Hk (v5 + (1 : Int32)) x8 H
def l_X0_close_10 (v0 : Nat) (v1 : Int32) (v2 : Int32) (v3 : Int32) (v4 : Int32) (K68 : Hp → Option Hp) (v5 : Int32) (h : Hp) : Option Hp := loopK FUEL (fun (k : Int32 × Hp → Option Hp) (s : Int32 × Hp) => b_X0_close_10 v0 v1 v2 v3 v4 K68 (fun v5q hq => k (v5q, hq)) s.1 s.2) (v5, h)
theorem okl_X0_close_10 {r : Hp} (v0 : Nat) (v1 : Int32) (v2 : Int32) (v3 : Int32) (v4 : Int32) (K68 : Hp → Option Hp) (v5 : Int32) (h : Hp) (HK68 : ∀   (hq : Hp), K68 hq = some r → Go M_X0_close (none, r) 68 [some (aA v0), some (aI v1), some (aI v2), some (aI v3), some (aI v4), none, none] [] hq) (H : l_X0_close_10 v0 v1 v2 v3 v4 K68 v5 h = some r) : Go M_X0_close (none, r) 10 [some (aA v0), some (aI v1), some (aI v2), some (aI v3), some (aI v4), some (aI v5), none] [] h := by
  unfold l_X0_close_10 at H
  exact go_loop (σ := Int32 × Hp) (body := (fun (k : Int32 × Hp → Option Hp) (s : Int32 × Hp) => b_X0_close_10 v0 v1 v2 v3 v4 K68 (fun v5q hq => k (v5q, hq)) s.1 s.2)) (fun s => [some (aA v0), some (aI v1), some (aI v2), some (aI v3), some (aI v4), some (aI s.1), none]) (fun s => s.2) (fun k s Hk H => okb_X0_close_10 v0 v1 v2 v3 v4 K68 (fun v5q hq => k (v5q, hq)) s.1 s.2 HK68 (fun v5q hq H => Hk (v5q, hq) H) H) FUEL (v5, h) H
def j_X0_close_68 (v0 : Nat) (v1 : Int32) (v2 : Int32) (v3 : Int32) (v4 : Int32)  (h : Hp) : Option Hp :=
  (gfR h v0 1 4).bind fun x1 => (m_X5_set x1 v2 v3 h).bind fun x2 => (gfR x2 v0 1 3).bind fun x3 => (m_X5_set x3 v1 (v4 + (1 : Int32)) x2).bind fun x4 => some x4
set_option maxRecDepth 20000 in
theorem okj_X0_close_68 {r : Hp} (v0 : Nat) (v1 : Int32) (v2 : Int32) (v3 : Int32) (v4 : Int32)  (h : Hp) (H : j_X0_close_68 v0 v1 v2 v3 v4 h = some r) : Go M_X0_close (none, r) 68 [some (aA v0), some (aI v1), some (aI v2), some (aI v3), some (aI v4), none, none] [] h := by
  unfold j_X0_close_68 at H
  refine go_aloadn dX0_close_68 rfl ?_
  refine gm_getR fd_X0_25 dX0_close_69 H (fun x1 H => ?_)
  refine go_iloadn dX0_close_72 rfl ?_
  refine go_iloadn dX0_close_73 rfl ?_
  obtain ⟨x2, ex2, H⟩ := bind_some H
  refine go_callS (vs := [aA x1, aI v2, aI v3]) (stk := []) (o1 := (none, x2)) mk_X5_set ss_X0_close_50 dX0_close_74 rfl rfl (Nat.le_of_ble_eq_true rfl) (Nat.le_of_ble_eq_true rfl) (ok_X5_set ex2) (show Go M_X0_close (none, r) 77 [some (aA v0), some (aI v1), some (aI v2), some (aI v3), some (aI v4), none, none] [] x2 from ?_)
  refine go_aloadn dX0_close_77 rfl ?_
  refine gm_getR fd_X0_21 dX0_close_78 H (fun x3 H => ?_)
  refine go_iloadn dX0_close_81 rfl ?_
  refine go_iload dX0_close_82 rfl ?_
  refine go_iconst (v := (1 : Int32)) dX0_close_84 rfl ?_
  refine go_iadd dX0_close_85 ?_
  obtain ⟨x4, ex4, H⟩ := bind_some H
  refine go_callS (vs := [aA x3, aI v1, aI (v4 + (1 : Int32))]) (stk := []) (o1 := (none, x4)) mk_X5_set ss_X0_close_50 dX0_close_86 rfl rfl (Nat.le_of_ble_eq_true rfl) (Nat.le_of_ble_eq_true rfl) (ok_X5_set ex4) (show Go M_X0_close (none, r) 89 [some (aA v0), some (aI v1), some (aI v2), some (aI v3), some (aI v4), none, none] [] x4 from ?_)
  obtain rfl := Option.some.inj H
  exact go_return dX0_close_89 rfl
def m_X0_close (v0 : Nat) (v1 : Int32) (v2 : Int32) (v3 : Int32) (h : Hp) : Option Hp :=
  (rc h v0 1 (m_X0_versionsOf v0 v1 h)).bind fun x1 => l_X0_close_10 v0 v1 v2 v3 x1 (fun hz2 => j_X0_close_68 v0 v1 v2 v3 x1 hz2) (0 : Int32) h
set_option maxRecDepth 20000 in
theorem ok_X0_close {r : Hp} {v0 : Nat} {v1 : Int32} {v2 : Int32} {v3 : Int32} {h : Hp} (H : m_X0_close v0 v1 v2 v3 h = some r) : Ev M_X0_close [aA v0, aI v1, aI v2, aI v3] h (none, r) := by
  show Go M_X0_close (none, r) 0 [some (aA v0), some (aI v1), some (aI v2), some (aI v3), none, none, none] [] h
  unfold m_X0_close at H
  refine go_aloadn dX0_close_0 rfl ?_
  refine go_iloadn dX0_close_1 rfl ?_
  obtain ⟨c1, x1, ex1, H⟩ := gm_rc H
  refine go_callV (vs := [aI v1]) (stk := []) (o1 := (some (aI x1), h)) mk_X0_versionsOf sv_X0_close_76 cl_X0 rfl dX0_close_2 c1 rfl rfl (Nat.le_of_ble_eq_true rfl) (Nat.le_of_ble_eq_true rfl) (ok_X0_versionsOf ex1) (show Go M_X0_close (none, r) 5 [some (aA v0), some (aI v1), some (aI v2), some (aI v3), none, none, none] [aI x1] h from ?_)
  refine go_istore (loc2 := [some (aA v0), some (aI v1), some (aI v2), some (aI v3), some (aI x1), none, none]) dX0_close_5 (by decide) rfl ?_
  refine go_iconst (v := (0 : Int32)) dX0_close_7 rfl ?_
  refine go_istore (loc2 := [some (aA v0), some (aI v1), some (aI v2), some (aI v3), some (aI x1), some (aI (0 : Int32)), none]) dX0_close_8 (by decide) rfl ?_
  refine okl_X0_close_10 v0 v1 v2 v3 x1 (fun hz2 => j_X0_close_68 v0 v1 v2 v3 x1 hz2) (0 : Int32) h ?_ H
  · intro hz2 H
    exact okj_X0_close_68 v0 v1 v2 v3 x1 hz2  H
/-! X0_addDocument -/
def b_X0_addDocument_45 (v0 : Nat) (v1 : Nat) (v2 : Int32) (v3 : Int32) (v4 : Int32) (v5 : Int32) (K77 : Hp → Option Hp) (k : Int32 → Hp → Option Hp) (v6 : Int32) (h : Hp) : Option Hp :=
  if v2 ≤ v6 then K77 h else (m_X5_at v1 v6 h).bind fun x1 => (rc h v0 1 (m_X0_newToken v0 v4 x1 h)).bind fun x2 => (rc x2.2 v0 1 (m_X0_insert v0 v5 v6 x2.1 x2.2)).bind fun x3 => k (v6 + (1 : Int32)) x3
set_option maxRecDepth 20000 in
theorem okb_X0_addDocument_45 {r : Hp} (v0 : Nat) (v1 : Nat) (v2 : Int32) (v3 : Int32) (v4 : Int32) (v5 : Int32) (K77 : Hp → Option Hp) (k : Int32 → Hp → Option Hp) (v6 : Int32) (h : Hp) (HK77 : ∀   (hq : Hp), K77 hq = some r → Go M_X0_addDocument (none, r) 77 [some (aA v0), none, none, some (aI v3), some (aI v4), some (aI v5), none] [] hq) (Hk : ∀ (v6q : Int32) (hq : Hp), k v6q hq = some r → Go M_X0_addDocument (none, r) 45 [some (aA v0), some (aA v1), some (aI v2), some (aI v3), some (aI v4), some (aI v5), some (aI v6q)] [] hq) (H : b_X0_addDocument_45 v0 v1 v2 v3 v4 v5 K77 k v6 h = some r) : Go M_X0_addDocument (none, r) 45 [some (aA v0), some (aA v1), some (aI v2), some (aI v3), some (aI v4), some (aI v5), some (aI v6)] [] h := by
  unfold b_X0_addDocument_45 at H
  refine go_iload dX0_addDocument_45 rfl ?_
  refine go_iloadn dX0_addDocument_47 rfl ?_
  refine go_icmp_ge (tgt := 77) dX0_addDocument_48 (by decide) (fun c1 => ?_) (fun c1 => ?_)
  · replace H := (gm_ite H).1 c1
    refine go_mask [true, false, false, true, true, true, false] (loc' := [some (aA v0), none, none, some (aI v3), some (aI v4), some (aI v5), none]) rfl ?_
    exact HK77 h H
  · replace H := (gm_ite H).2 c1
    refine go_aloadn dX0_addDocument_51 rfl ?_
    refine go_iload dX0_addDocument_52 rfl ?_
    refine go_iload dX0_addDocument_54 rfl ?_
    refine go_aloadn dX0_addDocument_56 rfl ?_
    refine go_iload dX0_addDocument_57 rfl ?_
    refine go_aloadn dX0_addDocument_59 rfl ?_
    refine go_iload dX0_addDocument_60 rfl ?_
    obtain ⟨x1, ex1, H⟩ := bind_some H
    refine go_callS (vs := [aA v1, aI v6]) (stk := [aI v4, aA v0, aI v6, aI v5, aA v0]) (o1 := (some (aI x1), h)) mk_X5_at ss_X0_addDocument_87 dX0_addDocument_62 rfl rfl (Nat.le_of_ble_eq_true rfl) (Nat.le_of_ble_eq_true rfl) (ok_X5_at ex1) (show Go M_X0_addDocument (none, r) 65 [some (aA v0), some (aA v1), some (aI v2), some (aI v3), some (aI v4), some (aI v5), some (aI v6)] [aI x1, aI v4, aA v0, aI v6, aI v5, aA v0] h from ?_)
    obtain ⟨c3, x2, ex2, H⟩ := gm_rc H
    refine go_callV (vs := [aI v4, aI x1]) (stk := [aI v6, aI v5, aA v0]) (o1 := (some (aI x2.1), x2.2)) mk_X0_newToken sv_X0_addDocument_111 cl_X0 rfl dX0_addDocument_65 c3 rfl rfl (Nat.le_of_ble_eq_true rfl) (Nat.le_of_ble_eq_true rfl) (ok_X0_newToken ex2) (show Go M_X0_addDocument (none, r) 68 [some (aA v0), some (aA v1), some (aI v2), some (aI v3), some (aI v4), some (aI v5), some (aI v6)] [aI x2.1, aI v6, aI v5, aA v0] x2.2 from ?_)
    obtain ⟨c4, x3, ex3, H⟩ := gm_rc H
    refine go_callV (vs := [aI v5, aI v6, aI x2.1]) (stk := []) (o1 := (none, x3)) mk_X0_insert sv_X0_addDocument_114 cl_X0 rfl dX0_addDocument_68 c4 rfl rfl (Nat.le_of_ble_eq_true rfl) (Nat.le_of_ble_eq_true rfl) (ok_X0_insert ex3) (show Go M_X0_addDocument (none, r) 71 [some (aA v0), some (aA v1), some (aI v2), some (aI v3), some (aI v4), some (aI v5), some (aI v6)] [] x3 from ?_)
    refine go_iinc (v := (v6 + (1 : Int32))) (loc2 := [some (aA v0), some (aA v1), some (aI v2), some (aI v3), some (aI v4), some (aI v5), some (aI (v6 + (1 : Int32)))]) dX0_addDocument_71 rfl rfl (by decide) rfl ?_
    refine go_goto (tgt := 45) dX0_addDocument_74 (by decide) ?_
    exact Hk (v6 + (1 : Int32)) x3 H
def l_X0_addDocument_45 (v0 : Nat) (v1 : Nat) (v2 : Int32) (v3 : Int32) (v4 : Int32) (v5 : Int32) (K77 : Hp → Option Hp) (v6 : Int32) (h : Hp) : Option Hp := loopK FUEL (fun (k : Int32 × Hp → Option Hp) (s : Int32 × Hp) => b_X0_addDocument_45 v0 v1 v2 v3 v4 v5 K77 (fun v6q hq => k (v6q, hq)) s.1 s.2) (v6, h)
theorem okl_X0_addDocument_45 {r : Hp} (v0 : Nat) (v1 : Nat) (v2 : Int32) (v3 : Int32) (v4 : Int32) (v5 : Int32) (K77 : Hp → Option Hp) (v6 : Int32) (h : Hp) (HK77 : ∀   (hq : Hp), K77 hq = some r → Go M_X0_addDocument (none, r) 77 [some (aA v0), none, none, some (aI v3), some (aI v4), some (aI v5), none] [] hq) (H : l_X0_addDocument_45 v0 v1 v2 v3 v4 v5 K77 v6 h = some r) : Go M_X0_addDocument (none, r) 45 [some (aA v0), some (aA v1), some (aI v2), some (aI v3), some (aI v4), some (aI v5), some (aI v6)] [] h := by
  unfold l_X0_addDocument_45 at H
  exact go_loop (σ := Int32 × Hp) (body := (fun (k : Int32 × Hp → Option Hp) (s : Int32 × Hp) => b_X0_addDocument_45 v0 v1 v2 v3 v4 v5 K77 (fun v6q hq => k (v6q, hq)) s.1 s.2)) (fun s => [some (aA v0), some (aA v1), some (aI v2), some (aI v3), some (aI v4), some (aI v5), some (aI s.1)]) (fun s => s.2) (fun k s Hk H => okb_X0_addDocument_45 v0 v1 v2 v3 v4 v5 K77 (fun v6q hq => k (v6q, hq)) s.1 s.2 HK77 (fun v6q hq H => Hk (v6q, hq) H) H) FUEL (v6, h) H
def j_X0_addDocument_77 (v0 : Nat) (v3 : Int32) (v4 : Int32) (v5 : Int32)  (h : Hp) : Option Hp :=
  (rc h v0 1 (m_X0_close v0 v4 v5 v3 h)).bind fun x1 => some x1
set_option maxRecDepth 20000 in
theorem okj_X0_addDocument_77 {r : Hp} (v0 : Nat) (v3 : Int32) (v4 : Int32) (v5 : Int32)  (h : Hp) (H : j_X0_addDocument_77 v0 v3 v4 v5 h = some r) : Go M_X0_addDocument (none, r) 77 [some (aA v0), none, none, some (aI v3), some (aI v4), some (aI v5), none] [] h := by
  unfold j_X0_addDocument_77 at H
  refine go_aloadn dX0_addDocument_77 rfl ?_
  refine go_iload dX0_addDocument_78 rfl ?_
  refine go_iload dX0_addDocument_80 rfl ?_
  refine go_iloadn dX0_addDocument_82 rfl ?_
  obtain ⟨c1, x1, ex1, H⟩ := gm_rc H
  refine go_callV (vs := [aI v4, aI v5, aI v3]) (stk := []) (o1 := (none, x1)) mk_X0_close sv_X0_addDocument_118 cl_X0 rfl dX0_addDocument_83 c1 rfl rfl (Nat.le_of_ble_eq_true rfl) (Nat.le_of_ble_eq_true rfl) (ok_X0_close ex1) (show Go M_X0_addDocument (none, r) 86 [some (aA v0), none, none, some (aI v3), some (aI v4), some (aI v5), none] [] x1 from ?_)
  obtain rfl := Option.some.inj H
  exact go_return dX0_addDocument_86 rfl
def m_X0_addDocument (v0 : Nat) (v1 : Nat) (v2 : Int32) (v3 : Int32) (h : Hp) : Option Hp :=
  (gfI h v0 1 0).bind fun x1 => if x1 < (4 : Int32) then ((gfI h v0 1 0).bind fun x2 => (pfI h v0 1 0 (x2 + (1 : Int32))).bind fun hh1 => (gfR hh1 v0 1 3).bind fun x3 => (m_X5_set x3 x1 (0 : Int32) hh1).bind fun x4 => (rc x4 v0 1 (m_X0_open v0 x1 (-1 : Int32) x4)).bind fun x5 => l_X0_addDocument_45 v0 v1 v2 v3 x1 x5.1 (fun hz6 => j_X0_addDocument_77 v0 v3 x1 x5.1 hz6) (0 : Int32) x5.2) else some h
set_option maxRecDepth 20000 in
theorem ok_X0_addDocument {r : Hp} {v0 : Nat} {v1 : Nat} {v2 : Int32} {v3 : Int32} {h : Hp} (H : m_X0_addDocument v0 v1 v2 v3 h = some r) : Ev M_X0_addDocument [aA v0, aA v1, aI v2, aI v3] h (none, r) := by
  show Go M_X0_addDocument (none, r) 0 [some (aA v0), some (aA v1), some (aI v2), some (aI v3), none, none, none] [] h
  unfold m_X0_addDocument at H
  refine go_aloadn dX0_addDocument_0 rfl ?_
  refine gm_getI fd_X0_11 dX0_addDocument_1 H (fun x1 H => ?_)
  refine go_istore (loc2 := [some (aA v0), some (aA v1), some (aI v2), some (aI v3), some (aI x1), none, none]) dX0_addDocument_4 (by decide) rfl ?_
  refine go_iload dX0_addDocument_6 rfl ?_
  refine go_iconst (v := (4 : Int32)) dX0_addDocument_8 rfl ?_
  refine go_icmp_lt (tgt := 13) dX0_addDocument_9 (by decide) (fun c1 => ?_) (fun c1 => ?_)
  · replace H := (gm_ite H).1 c1
    refine go_aloadn dX0_addDocument_13 rfl ?_
    refine go_dupA dX0_addDocument_14 ?_
    refine gm_getI fd_X0_11 dX0_addDocument_15 H (fun x2 H => ?_)
    refine go_iconst (v := (1 : Int32)) dX0_addDocument_18 rfl ?_
    refine go_iadd dX0_addDocument_19 ?_
    refine gm_putI fd_X0_11 (Or.inl rfl) dX0_addDocument_20 H (fun hh1 H => ?_)
    refine go_aloadn dX0_addDocument_23 rfl ?_
    refine gm_getR fd_X0_21 dX0_addDocument_24 H (fun x3 H => ?_)
    refine go_iload dX0_addDocument_27 rfl ?_
    refine go_iconst (v := (0 : Int32)) dX0_addDocument_29 rfl ?_
    obtain ⟨x4, ex4, H⟩ := bind_some H
    refine go_callS (vs := [aA x3, aI x1, aI (0 : Int32)]) (stk := []) (o1 := (none, x4)) mk_X5_set ss_X0_addDocument_50 dX0_addDocument_30 rfl rfl (Nat.le_of_ble_eq_true rfl) (Nat.le_of_ble_eq_true rfl) (ok_X5_set ex4) (show Go M_X0_addDocument (none, r) 33 [some (aA v0), some (aA v1), some (aI v2), some (aI v3), some (aI x1), none, none] [] x4 from ?_)
    refine go_aloadn dX0_addDocument_33 rfl ?_
    refine go_iload dX0_addDocument_34 rfl ?_
    refine go_iconst (v := (-1 : Int32)) dX0_addDocument_36 rfl ?_
    obtain ⟨c3, x5, ex5, H⟩ := gm_rc H
    refine go_callV (vs := [aI x1, aI (-1 : Int32)]) (stk := []) (o1 := (some (aI x5.1), x5.2)) mk_X0_open sv_X0_addDocument_108 cl_X0 rfl dX0_addDocument_37 c3 rfl rfl (Nat.le_of_ble_eq_true rfl) (Nat.le_of_ble_eq_true rfl) (ok_X0_open ex5) (show Go M_X0_addDocument (none, r) 40 [some (aA v0), some (aA v1), some (aI v2), some (aI v3), some (aI x1), none, none] [aI x5.1] x5.2 from ?_)
    refine go_istore (loc2 := [some (aA v0), some (aA v1), some (aI v2), some (aI v3), some (aI x1), some (aI x5.1), none]) dX0_addDocument_40 (by decide) rfl ?_
    refine go_iconst (v := (0 : Int32)) dX0_addDocument_42 rfl ?_
    refine go_istore (loc2 := [some (aA v0), some (aA v1), some (aI v2), some (aI v3), some (aI x1), some (aI x5.1), some (aI (0 : Int32))]) dX0_addDocument_43 (by decide) rfl ?_
    refine okl_X0_addDocument_45 v0 v1 v2 v3 x1 x5.1 (fun hz6 => j_X0_addDocument_77 v0 v3 x1 x5.1 hz6) (0 : Int32) x5.2 ?_ H
    · intro hz6 H
      exact okj_X0_addDocument_77 v0 v3 x1 x5.1 hz6  H
  · replace H := (gm_ite H).2 c1
    obtain rfl := Option.some.inj H
    exact go_return dX0_addDocument_12 rfl
/-! X0_putWords -/
def b_X0_putWords_17 (v0 : Nat) (v1 : Int32) (v2 : Int32) (v3 : Nat) (v4 : Int32) (v5 : Int32) (v6 : Int32) (K51 : Hp → Option Hp) (k : Int32 → Hp → Option Hp) (v7 : Int32) (h : Hp) : Option Hp :=
  if v4 ≤ v7 then K51 h else (m_X5_at v3 v7 h).bind fun x1 => (rc h v0 1 (m_X0_newToken v0 v1 x1 h)).bind fun x2 => (rc x2.2 v0 1 (m_X0_insert v0 v6 (v2 + v7) x2.1 x2.2)).bind fun x3 => k (v7 + (1 : Int32)) x3
set_option maxRecDepth 20000 in
theorem okb_X0_putWords_17 {r : Hp} (v0 : Nat) (v1 : Int32) (v2 : Int32) (v3 : Nat) (v4 : Int32) (v5 : Int32) (v6 : Int32) (K51 : Hp → Option Hp) (k : Int32 → Hp → Option Hp) (v7 : Int32) (h : Hp) (HK51 : ∀   (hq : Hp), K51 hq = some r → Go M_X0_putWords (none, r) 51 [some (aA v0), some (aI v1), none, none, none, some (aI v5), some (aI v6), none] [] hq) (Hk : ∀ (v7q : Int32) (hq : Hp), k v7q hq = some r → Go M_X0_putWords (none, r) 17 [some (aA v0), some (aI v1), some (aI v2), some (aA v3), some (aI v4), some (aI v5), some (aI v6), some (aI v7q)] [] hq) (H : b_X0_putWords_17 v0 v1 v2 v3 v4 v5 v6 K51 k v7 h = some r) : Go M_X0_putWords (none, r) 17 [some (aA v0), some (aI v1), some (aI v2), some (aA v3), some (aI v4), some (aI v5), some (aI v6), some (aI v7)] [] h := by
  unfold b_X0_putWords_17 at H
  refine go_iload dX0_putWords_17 rfl ?_
  refine go_iload dX0_putWords_19 rfl ?_
  refine go_icmp_ge (tgt := 51) dX0_putWords_21 (by decide) (fun c1 => ?_) (fun c1 => ?_)
  · replace H := (gm_ite H).1 c1
    refine go_mask [true, true, false, false, false, true, true, false] (loc' := [some (aA v0), some (aI v1), none, none, none, some (aI v5), some (aI v6), none]) rfl ?_
    exact HK51 h H
  · replace H := (gm_ite H).2 c1
    refine go_aloadn dX0_putWords_24 rfl ?_
    refine go_iload dX0_putWords_25 rfl ?_
    refine go_iloadn dX0_putWords_27 rfl ?_
    refine go_iload dX0_putWords_28 rfl ?_
    refine go_iadd dX0_putWords_30 ?_
    refine go_aloadn dX0_putWords_31 rfl ?_
    refine go_iloadn dX0_putWords_32 rfl ?_
    refine go_aloadn dX0_putWords_33 rfl ?_
    refine go_iload dX0_putWords_34 rfl ?_
    obtain ⟨x1, ex1, H⟩ := bind_some H
    refine go_callS (vs := [aA v3, aI v7]) (stk := [aI v1, aA v0, aI (v2 + v7), aI v6, aA v0]) (o1 := (some (aI x1), h)) mk_X5_at ss_X0_putWords_87 dX0_putWords_36 rfl rfl (Nat.le_of_ble_eq_true rfl) (Nat.le_of_ble_eq_true rfl) (ok_X5_at ex1) (show Go M_X0_putWords (none, r) 39 [some (aA v0), some (aI v1), some (aI v2), some (aA v3), some (aI v4), some (aI v5), some (aI v6), some (aI v7)] [aI x1, aI v1, aA v0, aI (v2 + v7), aI v6, aA v0] h from ?_)
    obtain ⟨c3, x2, ex2, H⟩ := gm_rc H
    refine go_callV (vs := [aI v1, aI x1]) (stk := [aI (v2 + v7), aI v6, aA v0]) (o1 := (some (aI x2.1), x2.2)) mk_X0_newToken sv_X0_putWords_111 cl_X0 rfl dX0_putWords_39 c3 rfl rfl (Nat.le_of_ble_eq_true rfl) (Nat.le_of_ble_eq_true rfl) (ok_X0_newToken ex2) (show Go M_X0_putWords (none, r) 42 [some (aA v0), some (aI v1), some (aI v2), some (aA v3), some (aI v4), some (aI v5), some (aI v6), some (aI v7)] [aI x2.1, aI (v2 + v7), aI v6, aA v0] x2.2 from ?_)
    obtain ⟨c4, x3, ex3, H⟩ := gm_rc H
    refine go_callV (vs := [aI v6, aI (v2 + v7), aI x2.1]) (stk := []) (o1 := (none, x3)) mk_X0_insert sv_X0_putWords_114 cl_X0 rfl dX0_putWords_42 c4 rfl rfl (Nat.le_of_ble_eq_true rfl) (Nat.le_of_ble_eq_true rfl) (ok_X0_insert ex3) (show Go M_X0_putWords (none, r) 45 [some (aA v0), some (aI v1), some (aI v2), some (aA v3), some (aI v4), some (aI v5), some (aI v6), some (aI v7)] [] x3 from ?_)
    refine go_iinc (v := (v7 + (1 : Int32))) (loc2 := [some (aA v0), some (aI v1), some (aI v2), some (aA v3), some (aI v4), some (aI v5), some (aI v6), some (aI (v7 + (1 : Int32)))]) dX0_putWords_45 rfl rfl (by decide) rfl ?_
    refine go_goto (tgt := 17) dX0_putWords_48 (by decide) ?_
    exact Hk (v7 + (1 : Int32)) x3 H
def l_X0_putWords_17 (v0 : Nat) (v1 : Int32) (v2 : Int32) (v3 : Nat) (v4 : Int32) (v5 : Int32) (v6 : Int32) (K51 : Hp → Option Hp) (v7 : Int32) (h : Hp) : Option Hp := loopK FUEL (fun (k : Int32 × Hp → Option Hp) (s : Int32 × Hp) => b_X0_putWords_17 v0 v1 v2 v3 v4 v5 v6 K51 (fun v7q hq => k (v7q, hq)) s.1 s.2) (v7, h)
theorem okl_X0_putWords_17 {r : Hp} (v0 : Nat) (v1 : Int32) (v2 : Int32) (v3 : Nat) (v4 : Int32) (v5 : Int32) (v6 : Int32) (K51 : Hp → Option Hp) (v7 : Int32) (h : Hp) (HK51 : ∀   (hq : Hp), K51 hq = some r → Go M_X0_putWords (none, r) 51 [some (aA v0), some (aI v1), none, none, none, some (aI v5), some (aI v6), none] [] hq) (H : l_X0_putWords_17 v0 v1 v2 v3 v4 v5 v6 K51 v7 h = some r) : Go M_X0_putWords (none, r) 17 [some (aA v0), some (aI v1), some (aI v2), some (aA v3), some (aI v4), some (aI v5), some (aI v6), some (aI v7)] [] h := by
  unfold l_X0_putWords_17 at H
  exact go_loop (σ := Int32 × Hp) (body := (fun (k : Int32 × Hp → Option Hp) (s : Int32 × Hp) => b_X0_putWords_17 v0 v1 v2 v3 v4 v5 v6 K51 (fun v7q hq => k (v7q, hq)) s.1 s.2)) (fun s => [some (aA v0), some (aI v1), some (aI v2), some (aA v3), some (aI v4), some (aI v5), some (aI v6), some (aI s.1)]) (fun s => s.2) (fun k s Hk H => okb_X0_putWords_17 v0 v1 v2 v3 v4 v5 v6 K51 (fun v7q hq => k (v7q, hq)) s.1 s.2 HK51 (fun v7q hq H => Hk (v7q, hq) H) H) FUEL (v7, h) H
def j_X0_putWords_51 (v0 : Nat) (v1 : Int32) (v5 : Int32) (v6 : Int32)  (h : Hp) : Option Hp :=
  (rc h v0 1 (m_X0_close v0 v1 v6 v5 h)).bind fun x1 => some x1
set_option maxRecDepth 20000 in
theorem okj_X0_putWords_51 {r : Hp} (v0 : Nat) (v1 : Int32) (v5 : Int32) (v6 : Int32)  (h : Hp) (H : j_X0_putWords_51 v0 v1 v5 v6 h = some r) : Go M_X0_putWords (none, r) 51 [some (aA v0), some (aI v1), none, none, none, some (aI v5), some (aI v6), none] [] h := by
  unfold j_X0_putWords_51 at H
  refine go_aloadn dX0_putWords_51 rfl ?_
  refine go_iloadn dX0_putWords_52 rfl ?_
  refine go_iload dX0_putWords_53 rfl ?_
  refine go_iload dX0_putWords_55 rfl ?_
  obtain ⟨c1, x1, ex1, H⟩ := gm_rc H
  refine go_callV (vs := [aI v1, aI v6, aI v5]) (stk := []) (o1 := (none, x1)) mk_X0_close sv_X0_putWords_118 cl_X0 rfl dX0_putWords_57 c1 rfl rfl (Nat.le_of_ble_eq_true rfl) (Nat.le_of_ble_eq_true rfl) (ok_X0_close ex1) (show Go M_X0_putWords (none, r) 60 [some (aA v0), some (aI v1), none, none, none, some (aI v5), some (aI v6), none] [] x1 from ?_)
  obtain rfl := Option.some.inj H
  exact go_return dX0_putWords_60 rfl
def m_X0_putWords (v0 : Nat) (v1 : Int32) (v2 : Int32) (v3 : Nat) (v4 : Int32) (v5 : Int32) (h : Hp) : Option Hp :=
  (rc h v0 1 (m_X0_versionsOf v0 v1 h)).bind fun x1 => (rc h v0 1 (m_X0_open v0 v1 (x1 - (1 : Int32)) h)).bind fun x2 => l_X0_putWords_17 v0 v1 v2 v3 v4 v5 x2.1 (fun hz3 => j_X0_putWords_51 v0 v1 v5 x2.1 hz3) (0 : Int32) x2.2
set_option maxRecDepth 20000 in
theorem ok_X0_putWords {r : Hp} {v0 : Nat} {v1 : Int32} {v2 : Int32} {v3 : Nat} {v4 : Int32} {v5 : Int32} {h : Hp} (H : m_X0_putWords v0 v1 v2 v3 v4 v5 h = some r) : Ev M_X0_putWords [aA v0, aI v1, aI v2, aA v3, aI v4, aI v5] h (none, r) := by
  show Go M_X0_putWords (none, r) 0 [some (aA v0), some (aI v1), some (aI v2), some (aA v3), some (aI v4), some (aI v5), none, none] [] h
  unfold m_X0_putWords at H
  refine go_aloadn dX0_putWords_0 rfl ?_
  refine go_iloadn dX0_putWords_1 rfl ?_
  refine go_aloadn dX0_putWords_2 rfl ?_
  refine go_iloadn dX0_putWords_3 rfl ?_
  obtain ⟨c1, x1, ex1, H⟩ := gm_rc H
  refine go_callV (vs := [aI v1]) (stk := [aI v1, aA v0]) (o1 := (some (aI x1), h)) mk_X0_versionsOf sv_X0_putWords_76 cl_X0 rfl dX0_putWords_4 c1 rfl rfl (Nat.le_of_ble_eq_true rfl) (Nat.le_of_ble_eq_true rfl) (ok_X0_versionsOf ex1) (show Go M_X0_putWords (none, r) 7 [some (aA v0), some (aI v1), some (aI v2), some (aA v3), some (aI v4), some (aI v5), none, none] [aI x1, aI v1, aA v0] h from ?_)
  refine go_iconst (v := (1 : Int32)) dX0_putWords_7 rfl ?_
  refine go_isub dX0_putWords_8 ?_
  obtain ⟨c2, x2, ex2, H⟩ := gm_rc H
  refine go_callV (vs := [aI v1, aI (x1 - (1 : Int32))]) (stk := []) (o1 := (some (aI x2.1), x2.2)) mk_X0_open sv_X0_putWords_108 cl_X0 rfl dX0_putWords_9 c2 rfl rfl (Nat.le_of_ble_eq_true rfl) (Nat.le_of_ble_eq_true rfl) (ok_X0_open ex2) (show Go M_X0_putWords (none, r) 12 [some (aA v0), some (aI v1), some (aI v2), some (aA v3), some (aI v4), some (aI v5), none, none] [aI x2.1] x2.2 from ?_)
  refine go_istore (loc2 := [some (aA v0), some (aI v1), some (aI v2), some (aA v3), some (aI v4), some (aI v5), some (aI x2.1), none]) dX0_putWords_12 (by decide) rfl ?_
  refine go_iconst (v := (0 : Int32)) dX0_putWords_14 rfl ?_
  refine go_istore (loc2 := [some (aA v0), some (aI v1), some (aI v2), some (aA v3), some (aI v4), some (aI v5), some (aI x2.1), some (aI (0 : Int32))]) dX0_putWords_15 (by decide) rfl ?_
  refine okl_X0_putWords_17 v0 v1 v2 v3 v4 v5 x2.1 (fun hz3 => j_X0_putWords_51 v0 v1 v5 x2.1 hz3) (0 : Int32) x2.2 ?_ H
  · intro hz3 H
    exact okj_X0_putWords_51 v0 v1 v5 x2.1 hz3  H
/-! X0_remove -/
def b_X0_remove_38 (v0 : Nat) (v1 : Int32) (v3 : Int32) (v4 : Int32) (K82 : Hp → Option (Int32 × Hp)) (k : Int32 → Hp → Option (Int32 × Hp)) (v5 : Int32) (h : Hp) : Option (Int32 × Hp) :=
  if (v3 - (1 : Int32)) ≤ v5 then K82 h else (gfR h v0 1 6).bind fun x1 => (gfR h v0 1 6).bind fun x2 => (m_X5_at x2 (((v1 * (20 : Int32)) + v5) + (1 : Int32)) h).bind fun x3 => (m_X5_set x1 ((v1 * (20 : Int32)) + v5) x3 h).bind fun x4 => k (v5 + (1 : Int32)) x4
set_option maxRecDepth 20000 in
theorem okb_X0_remove_38 {r : (Int32 × Hp)} (v0 : Nat) (v1 : Int32) (v3 : Int32) (v4 : Int32) (K82 : Hp → Option (Int32 × Hp)) (k : Int32 → Hp → Option (Int32 × Hp)) (v5 : Int32) (h : Hp) (HK82 : ∀   (hq : Hp), K82 hq = some r → Go M_X0_remove (some (aI r.1), r.2) 82 [some (aA v0), some (aI v1), none, some (aI v3), some (aI v4), none] [] hq) (Hk : ∀ (v5q : Int32) (hq : Hp), k v5q hq = some r → Go M_X0_remove (some (aI r.1), r.2) 38 [some (aA v0), some (aI v1), none, some (aI v3), some (aI v4), some (aI v5q)] [] hq) (H : b_X0_remove_38 v0 v1 v3 v4 K82 k v5 h = some r) : Go M_X0_remove (some (aI r.1), r.2) 38 [some (aA v0), some (aI v1), none, some (aI v3), some (aI v4), some (aI v5)] [] h := by
  unfold b_X0_remove_38 at H
  refine go_iload dX0_remove_38 rfl ?_
  refine go_iloadn dX0_remove_40 rfl ?_
  refine go_iconst (v := (1 : Int32)) dX0_remove_41 rfl ?_
  refine go_isub dX0_remove_42 ?_
  refine go_icmp_ge (tgt := 82) dX0_remove_43 (by decide) (fun c1 => ?_) (fun c1 => ?_)
  · replace H := (gm_ite H).1 c1
    refine go_mask [true, true, false, true, true, false] (loc' := [some (aA v0), some (aI v1), none, some (aI v3), some (aI v4), none]) rfl ?_
    exact HK82 h H
  · replace H := (gm_ite H).2 c1
    refine go_aloadn dX0_remove_46 rfl ?_
    refine gm_getR fd_X0_31 dX0_remove_47 H (fun x1 H => ?_)
    refine go_iloadn dX0_remove_50 rfl ?_
    refine go_bipush (v := (20 : Int32)) dX0_remove_51 rfl ?_
    refine go_imul dX0_remove_53 ?_
    refine go_iload dX0_remove_54 rfl ?_
    refine go_iadd dX0_remove_56 ?_
    refine go_aloadn dX0_remove_57 rfl ?_
    refine gm_getR fd_X0_31 dX0_remove_58 H (fun x2 H => ?_)
    refine go_iloadn dX0_remove_61 rfl ?_
    refine go_bipush (v := (20 : Int32)) dX0_remove_62 rfl ?_
    refine go_imul dX0_remove_64 ?_
    refine go_iload dX0_remove_65 rfl ?_
    refine go_iadd dX0_remove_67 ?_
    refine go_iconst (v := (1 : Int32)) dX0_remove_68 rfl ?_
    refine go_iadd dX0_remove_69 ?_
    obtain ⟨x3, ex3, H⟩ := bind_some H
    refine go_callS (vs := [aA x2, aI (((v1 * (20 : Int32)) + v5) + (1 : Int32))]) (stk := [aI ((v1 * (20 : Int32)) + v5), aA x1]) (o1 := (some (aI x3), h)) mk_X5_at ss_X0_remove_87 dX0_remove_70 rfl rfl (Nat.le_of_ble_eq_true rfl) (Nat.le_of_ble_eq_true rfl) (ok_X5_at ex3) (show Go M_X0_remove (some (aI r.1), r.2) 73 [some (aA v0), some (aI v1), none, some (aI v3), some (aI v4), some (aI v5)] [aI x3, aI ((v1 * (20 : Int32)) + v5), aA x1] h from ?_)
    obtain ⟨x4, ex4, H⟩ := bind_some H
    refine go_callS (vs := [aA x1, aI ((v1 * (20 : Int32)) + v5), aI x3]) (stk := []) (o1 := (none, x4)) mk_X5_set ss_X0_remove_50 dX0_remove_73 rfl rfl (Nat.le_of_ble_eq_true rfl) (Nat.le_of_ble_eq_true rfl) (ok_X5_set ex4) (show Go M_X0_remove (some (aI r.1), r.2) 76 [some (aA v0), some (aI v1), none, some (aI v3), some (aI v4), some (aI v5)] [] x4 from ?_)
    refine go_iinc (v := (v5 + (1 : Int32))) (loc2 := [some (aA v0), some (aI v1), none, some (aI v3), some (aI v4), some (aI (v5 + (1 : Int32)))]) dX0_remove_76 rfl rfl (by decide) rfl ?_
    refine go_goto (tgt := 38) dX0_remove_79 (by decide) ?_
    exact Hk (v5 + (1 : Int32)) x4 H
def l_X0_remove_38 (v0 : Nat) (v1 : Int32) (v3 : Int32) (v4 : Int32) (K82 : Hp → Option (Int32 × Hp)) (v5 : Int32) (h : Hp) : Option (Int32 × Hp) := loopK FUEL (fun (k : Int32 × Hp → Option (Int32 × Hp)) (s : Int32 × Hp) => b_X0_remove_38 v0 v1 v3 v4 K82 (fun v5q hq => k (v5q, hq)) s.1 s.2) (v5, h)
theorem okl_X0_remove_38 {r : (Int32 × Hp)} (v0 : Nat) (v1 : Int32) (v3 : Int32) (v4 : Int32) (K82 : Hp → Option (Int32 × Hp)) (v5 : Int32) (h : Hp) (HK82 : ∀   (hq : Hp), K82 hq = some r → Go M_X0_remove (some (aI r.1), r.2) 82 [some (aA v0), some (aI v1), none, some (aI v3), some (aI v4), none] [] hq) (H : l_X0_remove_38 v0 v1 v3 v4 K82 v5 h = some r) : Go M_X0_remove (some (aI r.1), r.2) 38 [some (aA v0), some (aI v1), none, some (aI v3), some (aI v4), some (aI v5)] [] h := by
  unfold l_X0_remove_38 at H
  exact go_loop (σ := Int32 × Hp) (body := (fun (k : Int32 × Hp → Option (Int32 × Hp)) (s : Int32 × Hp) => b_X0_remove_38 v0 v1 v3 v4 K82 (fun v5q hq => k (v5q, hq)) s.1 s.2)) (fun s => [some (aA v0), some (aI v1), none, some (aI v3), some (aI v4), some (aI s.1)]) (fun s => s.2) (fun k s Hk H => okb_X0_remove_38 v0 v1 v3 v4 K82 (fun v5q hq => k (v5q, hq)) s.1 s.2 HK82 (fun v5q hq H => Hk (v5q, hq) H) H) FUEL (v5, h) H
def j_X0_remove_82 (v0 : Nat) (v1 : Int32) (v3 : Int32) (v4 : Int32)  (h : Hp) : Option (Int32 × Hp) :=
  (gfR h v0 1 5).bind fun x1 => (m_X5_set x1 v1 (v3 - (1 : Int32)) h).bind fun x2 => some (v4, x2)
set_option maxRecDepth 20000 in
theorem okj_X0_remove_82 {r : (Int32 × Hp)} (v0 : Nat) (v1 : Int32) (v3 : Int32) (v4 : Int32)  (h : Hp) (H : j_X0_remove_82 v0 v1 v3 v4 h = some r) : Go M_X0_remove (some (aI r.1), r.2) 82 [some (aA v0), some (aI v1), none, some (aI v3), some (aI v4), none] [] h := by
  unfold j_X0_remove_82 at H
  refine go_aloadn dX0_remove_82 rfl ?_
  refine gm_getR fd_X0_28 dX0_remove_83 H (fun x1 H => ?_)
  refine go_iloadn dX0_remove_86 rfl ?_
  refine go_iloadn dX0_remove_87 rfl ?_
  refine go_iconst (v := (1 : Int32)) dX0_remove_88 rfl ?_
  refine go_isub dX0_remove_89 ?_
  obtain ⟨x2, ex2, H⟩ := bind_some H
  refine go_callS (vs := [aA x1, aI v1, aI (v3 - (1 : Int32))]) (stk := []) (o1 := (none, x2)) mk_X5_set ss_X0_remove_50 dX0_remove_90 rfl rfl (Nat.le_of_ble_eq_true rfl) (Nat.le_of_ble_eq_true rfl) (ok_X5_set ex2) (show Go M_X0_remove (some (aI r.1), r.2) 93 [some (aA v0), some (aI v1), none, some (aI v3), some (aI v4), none] [] x2 from ?_)
  refine go_iload dX0_remove_93 rfl ?_
  obtain rfl := Option.some.inj H
  exact go_ireturn dX0_remove_95 (tyI_int rfl)
def m_X0_remove (v0 : Nat) (v1 : Int32) (v2 : Int32) (h : Hp) : Option (Int32 × Hp) :=
  (gfR h v0 1 5).bind fun x1 => (m_X5_at x1 v1 h).bind fun x2 => if v2 < 0 then (some ((0 : Int32), h)) else if v2 < x2 then ((gfR h v0 1 6).bind fun x3 => (m_X5_at x3 ((v1 * (20 : Int32)) + v2) h).bind fun x4 => l_X0_remove_38 v0 v1 x2 x4 (fun hz5 => j_X0_remove_82 v0 v1 x2 x4 hz5) v2 h) else some ((0 : Int32), h)
set_option maxRecDepth 20000 in
theorem ok_X0_remove {r : (Int32 × Hp)} {v0 : Nat} {v1 : Int32} {v2 : Int32} {h : Hp} (H : m_X0_remove v0 v1 v2 h = some r) : Ev M_X0_remove [aA v0, aI v1, aI v2] h (some (aI r.1), r.2) := by
  show Go M_X0_remove (some (aI r.1), r.2) 0 [some (aA v0), some (aI v1), some (aI v2), none, none, none] [] h
  unfold m_X0_remove at H
  refine go_aloadn dX0_remove_0 rfl ?_
  refine gm_getR fd_X0_28 dX0_remove_1 H (fun x1 H => ?_)
  refine go_iloadn dX0_remove_4 rfl ?_
  obtain ⟨x2, ex2, H⟩ := bind_some H
  refine go_callS (vs := [aA x1, aI v1]) (stk := []) (o1 := (some (aI x2), h)) mk_X5_at ss_X0_remove_87 dX0_remove_5 rfl rfl (Nat.le_of_ble_eq_true rfl) (Nat.le_of_ble_eq_true rfl) (ok_X5_at ex2) (show Go M_X0_remove (some (aI r.1), r.2) 8 [some (aA v0), some (aI v1), some (aI v2), none, none, none] [aI x2] h from ?_)
  refine go_istoren (loc2 := [some (aA v0), some (aI v1), some (aI v2), some (aI x2), none, none]) dX0_remove_8 rfl (by decide) rfl ?_
  refine go_iloadn dX0_remove_9 rfl ?_
  refine go_if_lt (tgt := 18) dX0_remove_10 (by decide) (fun c2 => ?_) (fun c2 => ?_)
  · replace H := (gm_ite H).1 c2
    refine go_iconst (v := (0 : Int32)) dX0_remove_18 rfl ?_
    obtain rfl := Option.some.inj H
    exact go_ireturn dX0_remove_19 (tyI_int rfl)
  · replace H := (gm_ite H).2 c2
    refine go_iloadn dX0_remove_13 rfl ?_
    refine go_iloadn dX0_remove_14 rfl ?_
    refine go_icmp_lt (tgt := 20) dX0_remove_15 (by decide) (fun c3 => ?_) (fun c3 => ?_)
    · replace H := (gm_ite H).1 c3
      refine go_aloadn dX0_remove_20 rfl ?_
      refine gm_getR fd_X0_31 dX0_remove_21 H (fun x3 H => ?_)
      refine go_iloadn dX0_remove_24 rfl ?_
      refine go_bipush (v := (20 : Int32)) dX0_remove_25 rfl ?_
      refine go_imul dX0_remove_27 ?_
      refine go_iloadn dX0_remove_28 rfl ?_
      refine go_iadd dX0_remove_29 ?_
      obtain ⟨x4, ex4, H⟩ := bind_some H
      refine go_callS (vs := [aA x3, aI ((v1 * (20 : Int32)) + v2)]) (stk := []) (o1 := (some (aI x4), h)) mk_X5_at ss_X0_remove_87 dX0_remove_30 rfl rfl (Nat.le_of_ble_eq_true rfl) (Nat.le_of_ble_eq_true rfl) (ok_X5_at ex4) (show Go M_X0_remove (some (aI r.1), r.2) 33 [some (aA v0), some (aI v1), some (aI v2), some (aI x2), none, none] [aI x4] h from ?_)
      refine go_istore (loc2 := [some (aA v0), some (aI v1), some (aI v2), some (aI x2), some (aI x4), none]) dX0_remove_33 (by decide) rfl ?_
      refine go_iloadn dX0_remove_35 rfl ?_
      refine go_istore (loc2 := [some (aA v0), some (aI v1), some (aI v2), some (aI x2), some (aI x4), some (aI v2)]) dX0_remove_36 (by decide) rfl ?_
      refine go_mask [true, true, false, true, true, true] (loc' := [some (aA v0), some (aI v1), none, some (aI x2), some (aI x4), some (aI v2)]) rfl ?_
      refine okl_X0_remove_38 v0 v1 x2 x4 (fun hz5 => j_X0_remove_82 v0 v1 x2 x4 hz5) v2 h ?_ H
      · intro hz5 H
        exact okj_X0_remove_82 v0 v1 x2 x4 hz5  H
    · replace H := (gm_ite H).2 c3
      refine go_iconst (v := (0 : Int32)) dX0_remove_18 rfl ?_
      obtain rfl := Option.some.inj H
      exact go_ireturn dX0_remove_19 (tyI_int rfl)
/-! X0_cutWords -/
def b_X0_cutWords_17 (v0 : Nat) (v1 : Int32) (v2 : Int32) (v3 : Int32) (v4 : Int32) (v5 : Int32) (K37 : Hp → Option Hp) (k : Int32 → Hp → Option Hp) (v6 : Int32) (h : Hp) : Option Hp :=
  if v3 ≤ v6 then K37 h else (rc h v0 1 (m_X0_remove v0 v5 v2 h)).bind fun x1 => k (v6 + (1 : Int32)) x1.2
set_option maxRecDepth 20000 in
theorem okb_X0_cutWords_17 {r : Hp} (v0 : Nat) (v1 : Int32) (v2 : Int32) (v3 : Int32) (v4 : Int32) (v5 : Int32) (K37 : Hp → Option Hp) (k : Int32 → Hp → Option Hp) (v6 : Int32) (h : Hp) (HK37 : ∀   (hq : Hp), K37 hq = some r → Go M_X0_cutWords (none, r) 37 [some (aA v0), some (aI v1), none, none, some (aI v4), some (aI v5), none] [] hq) (Hk : ∀ (v6q : Int32) (hq : Hp), k v6q hq = some r → Go M_X0_cutWords (none, r) 17 [some (aA v0), some (aI v1), some (aI v2), some (aI v3), some (aI v4), some (aI v5), some (aI v6q)] [] hq) (H : b_X0_cutWords_17 v0 v1 v2 v3 v4 v5 K37 k v6 h = some r) : Go M_X0_cutWords (none, r) 17 [some (aA v0), some (aI v1), some (aI v2), some (aI v3), some (aI v4), some (aI v5), some (aI v6)] [] h := by
  unfold b_X0_cutWords_17 at H
  refine go_iload dX0_cutWords_17 rfl ?_
  refine go_iloadn dX0_cutWords_19 rfl ?_
  refine go_icmp_ge (tgt := 37) dX0_cutWords_20 (by decide) (fun c1 => ?_) (fun c1 => ?_)
  · replace H := (gm_ite H).1 c1
    refine go_mask [true, true, false, false, true, true, false] (loc' := [some (aA v0), some (aI v1), none, none, some (aI v4), some (aI v5), none]) rfl ?_
    exact HK37 h H
  · replace H := (gm_ite H).2 c1
    refine go_aloadn dX0_cutWords_23 rfl ?_
    refine go_iload dX0_cutWords_24 rfl ?_
    refine go_iloadn dX0_cutWords_26 rfl ?_
    obtain ⟨c2, x1, ex1, H⟩ := gm_rc H
    refine go_callV (vs := [aI v5, aI v2]) (stk := []) (o1 := (some (aI x1.1), x1.2)) mk_X0_remove sv_X0_cutWords_121 cl_X0 rfl dX0_cutWords_27 c2 rfl rfl (Nat.le_of_ble_eq_true rfl) (Nat.le_of_ble_eq_true rfl) (ok_X0_remove ex1) (show Go M_X0_cutWords (none, r) 30 [some (aA v0), some (aI v1), some (aI v2), some (aI v3), some (aI v4), some (aI v5), some (aI v6)] [aI x1.1] x1.2 from ?_)
    refine go_popI dX0_cutWords_30 ?_
    refine go_iinc (v := (v6 + (1 : Int32))) (loc2 := [some (aA v0), some (aI v1), some (aI v2), some (aI v3), some (aI v4), some (aI v5), some (aI (v6 + (1 : Int32)))]) dX0_cutWords_31 rfl rfl (by decide) rfl ?_
    refine go_goto (tgt := 17) dX0_cutWords_34 (by decide) ?_
    exact Hk (v6 + (1 : Int32)) x1.2 H
def l_X0_cutWords_17 (v0 : Nat) (v1 : Int32) (v2 : Int32) (v3 : Int32) (v4 : Int32) (v5 : Int32) (K37 : Hp → Option Hp) (v6 : Int32) (h : Hp) : Option Hp := loopK FUEL (fun (k : Int32 × Hp → Option Hp) (s : Int32 × Hp) => b_X0_cutWords_17 v0 v1 v2 v3 v4 v5 K37 (fun v6q hq => k (v6q, hq)) s.1 s.2) (v6, h)
theorem okl_X0_cutWords_17 {r : Hp} (v0 : Nat) (v1 : Int32) (v2 : Int32) (v3 : Int32) (v4 : Int32) (v5 : Int32) (K37 : Hp → Option Hp) (v6 : Int32) (h : Hp) (HK37 : ∀   (hq : Hp), K37 hq = some r → Go M_X0_cutWords (none, r) 37 [some (aA v0), some (aI v1), none, none, some (aI v4), some (aI v5), none] [] hq) (H : l_X0_cutWords_17 v0 v1 v2 v3 v4 v5 K37 v6 h = some r) : Go M_X0_cutWords (none, r) 17 [some (aA v0), some (aI v1), some (aI v2), some (aI v3), some (aI v4), some (aI v5), some (aI v6)] [] h := by
  unfold l_X0_cutWords_17 at H
  exact go_loop (σ := Int32 × Hp) (body := (fun (k : Int32 × Hp → Option Hp) (s : Int32 × Hp) => b_X0_cutWords_17 v0 v1 v2 v3 v4 v5 K37 (fun v6q hq => k (v6q, hq)) s.1 s.2)) (fun s => [some (aA v0), some (aI v1), some (aI v2), some (aI v3), some (aI v4), some (aI v5), some (aI s.1)]) (fun s => s.2) (fun k s Hk H => okb_X0_cutWords_17 v0 v1 v2 v3 v4 v5 K37 (fun v6q hq => k (v6q, hq)) s.1 s.2 HK37 (fun v6q hq H => Hk (v6q, hq) H) H) FUEL (v6, h) H
def j_X0_cutWords_37 (v0 : Nat) (v1 : Int32) (v4 : Int32) (v5 : Int32)  (h : Hp) : Option Hp :=
  (rc h v0 1 (m_X0_close v0 v1 v5 v4 h)).bind fun x1 => some x1
set_option maxRecDepth 20000 in
theorem okj_X0_cutWords_37 {r : Hp} (v0 : Nat) (v1 : Int32) (v4 : Int32) (v5 : Int32)  (h : Hp) (H : j_X0_cutWords_37 v0 v1 v4 v5 h = some r) : Go M_X0_cutWords (none, r) 37 [some (aA v0), some (aI v1), none, none, some (aI v4), some (aI v5), none] [] h := by
  unfold j_X0_cutWords_37 at H
  refine go_aloadn dX0_cutWords_37 rfl ?_
  refine go_iloadn dX0_cutWords_38 rfl ?_
  refine go_iload dX0_cutWords_39 rfl ?_
  refine go_iload dX0_cutWords_41 rfl ?_
  obtain ⟨c1, x1, ex1, H⟩ := gm_rc H
  refine go_callV (vs := [aI v1, aI v5, aI v4]) (stk := []) (o1 := (none, x1)) mk_X0_close sv_X0_cutWords_118 cl_X0 rfl dX0_cutWords_43 c1 rfl rfl (Nat.le_of_ble_eq_true rfl) (Nat.le_of_ble_eq_true rfl) (ok_X0_close ex1) (show Go M_X0_cutWords (none, r) 46 [some (aA v0), some (aI v1), none, none, some (aI v4), some (aI v5), none] [] x1 from ?_)
  obtain rfl := Option.some.inj H
  exact go_return dX0_cutWords_46 rfl
def m_X0_cutWords (v0 : Nat) (v1 : Int32) (v2 : Int32) (v3 : Int32) (v4 : Int32) (h : Hp) : Option Hp :=
  (rc h v0 1 (m_X0_versionsOf v0 v1 h)).bind fun x1 => (rc h v0 1 (m_X0_open v0 v1 (x1 - (1 : Int32)) h)).bind fun x2 => l_X0_cutWords_17 v0 v1 v2 v3 v4 x2.1 (fun hz3 => j_X0_cutWords_37 v0 v1 v4 x2.1 hz3) (0 : Int32) x2.2
set_option maxRecDepth 20000 in
theorem ok_X0_cutWords {r : Hp} {v0 : Nat} {v1 : Int32} {v2 : Int32} {v3 : Int32} {v4 : Int32} {h : Hp} (H : m_X0_cutWords v0 v1 v2 v3 v4 h = some r) : Ev M_X0_cutWords [aA v0, aI v1, aI v2, aI v3, aI v4] h (none, r) := by
  show Go M_X0_cutWords (none, r) 0 [some (aA v0), some (aI v1), some (aI v2), some (aI v3), some (aI v4), none, none] [] h
  unfold m_X0_cutWords at H
  refine go_aloadn dX0_cutWords_0 rfl ?_
  refine go_iloadn dX0_cutWords_1 rfl ?_
  refine go_aloadn dX0_cutWords_2 rfl ?_
  refine go_iloadn dX0_cutWords_3 rfl ?_
  obtain ⟨c1, x1, ex1, H⟩ := gm_rc H
  refine go_callV (vs := [aI v1]) (stk := [aI v1, aA v0]) (o1 := (some (aI x1), h)) mk_X0_versionsOf sv_X0_cutWords_76 cl_X0 rfl dX0_cutWords_4 c1 rfl rfl (Nat.le_of_ble_eq_true rfl) (Nat.le_of_ble_eq_true rfl) (ok_X0_versionsOf ex1) (show Go M_X0_cutWords (none, r) 7 [some (aA v0), some (aI v1), some (aI v2), some (aI v3), some (aI v4), none, none] [aI x1, aI v1, aA v0] h from ?_)
  refine go_iconst (v := (1 : Int32)) dX0_cutWords_7 rfl ?_
  refine go_isub dX0_cutWords_8 ?_
  obtain ⟨c2, x2, ex2, H⟩ := gm_rc H
  refine go_callV (vs := [aI v1, aI (x1 - (1 : Int32))]) (stk := []) (o1 := (some (aI x2.1), x2.2)) mk_X0_open sv_X0_cutWords_108 cl_X0 rfl dX0_cutWords_9 c2 rfl rfl (Nat.le_of_ble_eq_true rfl) (Nat.le_of_ble_eq_true rfl) (ok_X0_open ex2) (show Go M_X0_cutWords (none, r) 12 [some (aA v0), some (aI v1), some (aI v2), some (aI v3), some (aI v4), none, none] [aI x2.1] x2.2 from ?_)
  refine go_istore (loc2 := [some (aA v0), some (aI v1), some (aI v2), some (aI v3), some (aI v4), some (aI x2.1), none]) dX0_cutWords_12 (by decide) rfl ?_
  refine go_iconst (v := (0 : Int32)) dX0_cutWords_14 rfl ?_
  refine go_istore (loc2 := [some (aA v0), some (aI v1), some (aI v2), some (aI v3), some (aI v4), some (aI x2.1), some (aI (0 : Int32))]) dX0_cutWords_15 (by decide) rfl ?_
  refine okl_X0_cutWords_17 v0 v1 v2 v3 v4 x2.1 (fun hz3 => j_X0_cutWords_37 v0 v1 v4 x2.1 hz3) (0 : Int32) x2.2 ?_ H
  · intro hz3 H
    exact okj_X0_cutWords_37 v0 v1 v4 x2.1 hz3  H
/-! X0_moveWord -/
def m_X0_moveWord (v0 : Nat) (v1 : Int32) (v2 : Int32) (v3 : Int32) (v4 : Int32) (h : Hp) : Option Hp :=
  (rc h v0 1 (m_X0_versionsOf v0 v1 h)).bind fun x1 => (rc h v0 1 (m_X0_open v0 v1 (x1 - (1 : Int32)) h)).bind fun x2 => (rc x2.2 v0 1 (m_X0_remove v0 x2.1 v2 x2.2)).bind fun x3 => (rc x3.2 v0 1 (m_X0_insert v0 x2.1 v3 x3.1 x3.2)).bind fun x4 => (rc x4 v0 1 (m_X0_close v0 v1 x2.1 v4 x4)).bind fun x5 => some x5
set_option maxRecDepth 20000 in
theorem ok_X0_moveWord {r : Hp} {v0 : Nat} {v1 : Int32} {v2 : Int32} {v3 : Int32} {v4 : Int32} {h : Hp} (H : m_X0_moveWord v0 v1 v2 v3 v4 h = some r) : Ev M_X0_moveWord [aA v0, aI v1, aI v2, aI v3, aI v4] h (none, r) := by
  show Go M_X0_moveWord (none, r) 0 [some (aA v0), some (aI v1), some (aI v2), some (aI v3), some (aI v4), none] [] h
  unfold m_X0_moveWord at H
  refine go_aloadn dX0_moveWord_0 rfl ?_
  refine go_iloadn dX0_moveWord_1 rfl ?_
  refine go_aloadn dX0_moveWord_2 rfl ?_
  refine go_iloadn dX0_moveWord_3 rfl ?_
  obtain ⟨c1, x1, ex1, H⟩ := gm_rc H
  refine go_callV (vs := [aI v1]) (stk := [aI v1, aA v0]) (o1 := (some (aI x1), h)) mk_X0_versionsOf sv_X0_moveWord_76 cl_X0 rfl dX0_moveWord_4 c1 rfl rfl (Nat.le_of_ble_eq_true rfl) (Nat.le_of_ble_eq_true rfl) (ok_X0_versionsOf ex1) (show Go M_X0_moveWord (none, r) 7 [some (aA v0), some (aI v1), some (aI v2), some (aI v3), some (aI v4), none] [aI x1, aI v1, aA v0] h from ?_)
  refine go_iconst (v := (1 : Int32)) dX0_moveWord_7 rfl ?_
  refine go_isub dX0_moveWord_8 ?_
  obtain ⟨c2, x2, ex2, H⟩ := gm_rc H
  refine go_callV (vs := [aI v1, aI (x1 - (1 : Int32))]) (stk := []) (o1 := (some (aI x2.1), x2.2)) mk_X0_open sv_X0_moveWord_108 cl_X0 rfl dX0_moveWord_9 c2 rfl rfl (Nat.le_of_ble_eq_true rfl) (Nat.le_of_ble_eq_true rfl) (ok_X0_open ex2) (show Go M_X0_moveWord (none, r) 12 [some (aA v0), some (aI v1), some (aI v2), some (aI v3), some (aI v4), none] [aI x2.1] x2.2 from ?_)
  refine go_istore (loc2 := [some (aA v0), some (aI v1), some (aI v2), some (aI v3), some (aI v4), some (aI x2.1)]) dX0_moveWord_12 (by decide) rfl ?_
  refine go_aloadn dX0_moveWord_14 rfl ?_
  refine go_iload dX0_moveWord_15 rfl ?_
  refine go_iloadn dX0_moveWord_17 rfl ?_
  refine go_aloadn dX0_moveWord_18 rfl ?_
  refine go_iload dX0_moveWord_19 rfl ?_
  refine go_iloadn dX0_moveWord_21 rfl ?_
  obtain ⟨c3, x3, ex3, H⟩ := gm_rc H
  refine go_callV (vs := [aI x2.1, aI v2]) (stk := [aI v3, aI x2.1, aA v0]) (o1 := (some (aI x3.1), x3.2)) mk_X0_remove sv_X0_moveWord_121 cl_X0 rfl dX0_moveWord_22 c3 rfl rfl (Nat.le_of_ble_eq_true rfl) (Nat.le_of_ble_eq_true rfl) (ok_X0_remove ex3) (show Go M_X0_moveWord (none, r) 25 [some (aA v0), some (aI v1), some (aI v2), some (aI v3), some (aI v4), some (aI x2.1)] [aI x3.1, aI v3, aI x2.1, aA v0] x3.2 from ?_)
  obtain ⟨c4, x4, ex4, H⟩ := gm_rc H
  refine go_callV (vs := [aI x2.1, aI v3, aI x3.1]) (stk := []) (o1 := (none, x4)) mk_X0_insert sv_X0_moveWord_114 cl_X0 rfl dX0_moveWord_25 c4 rfl rfl (Nat.le_of_ble_eq_true rfl) (Nat.le_of_ble_eq_true rfl) (ok_X0_insert ex4) (show Go M_X0_moveWord (none, r) 28 [some (aA v0), some (aI v1), some (aI v2), some (aI v3), some (aI v4), some (aI x2.1)] [] x4 from ?_)
  refine go_aloadn dX0_moveWord_28 rfl ?_
  refine go_iloadn dX0_moveWord_29 rfl ?_
  refine go_iload dX0_moveWord_30 rfl ?_
  refine go_iload dX0_moveWord_32 rfl ?_
  obtain ⟨c5, x5, ex5, H⟩ := gm_rc H
  refine go_callV (vs := [aI v1, aI x2.1, aI v4]) (stk := []) (o1 := (none, x5)) mk_X0_close sv_X0_moveWord_118 cl_X0 rfl dX0_moveWord_34 c5 rfl rfl (Nat.le_of_ble_eq_true rfl) (Nat.le_of_ble_eq_true rfl) (ok_X0_close ex5) (show Go M_X0_moveWord (none, r) 37 [some (aA v0), some (aI v1), some (aI v2), some (aI v3), some (aI v4), some (aI x2.1)] [] x5 from ?_)
  obtain rfl := Option.some.inj H
  exact go_return dX0_moveWord_37 rfl
/-! X0_goBack -/
def m_X0_goBack (v0 : Nat) (v1 : Int32) (v2 : Int32) (v3 : Int32) (h : Hp) : Option Hp :=
  (rc h v0 1 (m_X0_open v0 v1 v2 h)).bind fun x1 => (rc x1.2 v0 1 (m_X0_close v0 v1 x1.1 v3 x1.2)).bind fun x2 => some x2
set_option maxRecDepth 20000 in
theorem ok_X0_goBack {r : Hp} {v0 : Nat} {v1 : Int32} {v2 : Int32} {v3 : Int32} {h : Hp} (H : m_X0_goBack v0 v1 v2 v3 h = some r) : Ev M_X0_goBack [aA v0, aI v1, aI v2, aI v3] h (none, r) := by
  show Go M_X0_goBack (none, r) 0 [some (aA v0), some (aI v1), some (aI v2), some (aI v3), none] [] h
  unfold m_X0_goBack at H
  refine go_aloadn dX0_goBack_0 rfl ?_
  refine go_iloadn dX0_goBack_1 rfl ?_
  refine go_iloadn dX0_goBack_2 rfl ?_
  obtain ⟨c1, x1, ex1, H⟩ := gm_rc H
  refine go_callV (vs := [aI v1, aI v2]) (stk := []) (o1 := (some (aI x1.1), x1.2)) mk_X0_open sv_X0_goBack_108 cl_X0 rfl dX0_goBack_3 c1 rfl rfl (Nat.le_of_ble_eq_true rfl) (Nat.le_of_ble_eq_true rfl) (ok_X0_open ex1) (show Go M_X0_goBack (none, r) 6 [some (aA v0), some (aI v1), some (aI v2), some (aI v3), none] [aI x1.1] x1.2 from ?_)
  refine go_istore (loc2 := [some (aA v0), some (aI v1), some (aI v2), some (aI v3), some (aI x1.1)]) dX0_goBack_6 (by decide) rfl ?_
  refine go_aloadn dX0_goBack_8 rfl ?_
  refine go_iloadn dX0_goBack_9 rfl ?_
  refine go_iload dX0_goBack_10 rfl ?_
  refine go_iloadn dX0_goBack_12 rfl ?_
  obtain ⟨c2, x2, ex2, H⟩ := gm_rc H
  refine go_callV (vs := [aI v1, aI x1.1, aI v3]) (stk := []) (o1 := (none, x2)) mk_X0_close sv_X0_goBack_118 cl_X0 rfl dX0_goBack_13 c2 rfl rfl (Nat.le_of_ble_eq_true rfl) (Nat.le_of_ble_eq_true rfl) (ok_X0_close ex2) (show Go M_X0_goBack (none, r) 16 [some (aA v0), some (aI v1), some (aI v2), some (aI v3), some (aI x1.1)] [] x2 from ?_)
  obtain rfl := Option.some.inj H
  exact go_return dX0_goBack_16 rfl
/-! X7_makeVersion -/
def m_X7_makeVersion (v0 : Nat) (v1 : Int32) (h : Hp) : Option Hp :=
  (gfR h v0 7 0).bind fun x1 => (rc h x1 5 (m_X4_value x1 (0 : Int32) h)).bind fun x2 => (gfR h v0 7 0).bind fun x3 => (gfI h x3 5 0).bind fun x4 => if x4 = (8 : Int32) then ((gfR h v0 7 1).bind fun x5 => (gfR h v0 7 0).bind fun x6 => (gfR h x6 5 7).bind fun x7 => (gfR h v0 7 0).bind fun x8 => (gfI h x8 5 3).bind fun x9 => (rc h x5 1 (m_X0_addDocument x5 x7 x9 v1 h)).bind fun x10 => some x10) else if x4 = (9 : Int32) then ((gfR h v0 7 1).bind fun x11 => (gfR h v0 7 0).bind fun x12 => (rc h x12 5 (m_X4_value x12 (1 : Int32) h)).bind fun x13 => (gfR h v0 7 0).bind fun x14 => (gfR h x14 5 7).bind fun x15 => (gfR h v0 7 0).bind fun x16 => (gfI h x16 5 3).bind fun x17 => (rc h x11 1 (m_X0_putWords x11 x2 x13 x15 x17 v1 h)).bind fun x18 => some x18) else if x4 = (10 : Int32) then ((gfR h v0 7 1).bind fun x19 => (gfR h v0 7 0).bind fun x20 => (rc h x20 5 (m_X4_value x20 (1 : Int32) h)).bind fun x21 => (gfR h v0 7 0).bind fun x22 => (rc h x22 5 (m_X4_value x22 (2 : Int32) h)).bind fun x23 => (rc h x19 1 (m_X0_cutWords x19 x2 x21 x23 v1 h)).bind fun x24 => some x24) else if x4 = (11 : Int32) then ((gfR h v0 7 1).bind fun x25 => (gfR h v0 7 0).bind fun x26 => (rc h x26 5 (m_X4_value x26 (1 : Int32) h)).bind fun x27 => (gfR h v0 7 0).bind fun x28 => (rc h x28 5 (m_X4_value x28 (2 : Int32) h)).bind fun x29 => (rc h x25 1 (m_X0_moveWord x25 x2 x27 x29 v1 h)).bind fun x30 => some x30) else (gfR h v0 7 1).bind fun x31 => (gfR h v0 7 0).bind fun x32 => (rc h x32 5 (m_X4_value x32 (1 : Int32) h)).bind fun x33 => (rc h x31 1 (m_X0_goBack x31 x2 x33 v1 h)).bind fun x34 => some x34
set_option maxRecDepth 20000 in
theorem ok_X7_makeVersion {r : Hp} {v0 : Nat} {v1 : Int32} {h : Hp} (H : m_X7_makeVersion v0 v1 h = some r) : Ev M_X7_makeVersion [aA v0, aI v1] h (none, r) := by
  show Go M_X7_makeVersion (none, r) 0 [some (aA v0), some (aI v1), none] [] h
  unfold m_X7_makeVersion at H
  refine go_aloadn dX7_makeVersion_0 rfl ?_
  refine gm_getR fd_X7_12 dX7_makeVersion_1 H (fun x1 H => ?_)
  refine go_iconst (v := (0 : Int32)) dX7_makeVersion_4 rfl ?_
  obtain ⟨c1, x2, ex2, H⟩ := gm_rc H
  refine go_callV (vs := [aI (0 : Int32)]) (stk := []) (o1 := (some (aI x2), h)) mk_X4_value sv_X7_makeVersion_94 cl_X4 rfl dX7_makeVersion_5 c1 rfl rfl (Nat.le_of_ble_eq_true rfl) (Nat.le_of_ble_eq_true rfl) (ok_X4_value ex2) (show Go M_X7_makeVersion (none, r) 8 [some (aA v0), some (aI v1), none] [aI x2] h from ?_)
  refine go_istoren (loc2 := [some (aA v0), some (aI v1), some (aI x2)]) dX7_makeVersion_8 rfl (by decide) rfl ?_
  refine go_aloadn dX7_makeVersion_9 rfl ?_
  refine gm_getR fd_X7_12 dX7_makeVersion_10 H (fun x3 H => ?_)
  refine gm_getI fd_X7_117 dX7_makeVersion_13 H (fun x4 H => ?_)
  by_cases c2 : x4 = (8 : Int32)
  · replace H := (gm_ite H).1 c2
    refine go_eqI c2 ?_
    refine go_tableIn (tgt := 48) dX7_makeVersion_16 (by decide) (by decide) rfl (by decide) ?_
    refine go_aloadn dX7_makeVersion_48 rfl ?_
    refine gm_getR fd_X7_21 dX7_makeVersion_49 H (fun x5 H => ?_)
    refine go_aloadn dX7_makeVersion_52 rfl ?_
    refine gm_getR fd_X7_12 dX7_makeVersion_53 H (fun x6 H => ?_)
    refine gm_getR fd_X7_164 dX7_makeVersion_56 H (fun x7 H => ?_)
    refine go_aloadn dX7_makeVersion_59 rfl ?_
    refine gm_getR fd_X7_12 dX7_makeVersion_60 H (fun x8 H => ?_)
    refine gm_getI fd_X7_158 dX7_makeVersion_63 H (fun x9 H => ?_)
    refine go_iloadn dX7_makeVersion_66 rfl ?_
    obtain ⟨c3, x10, ex10, H⟩ := gm_rc H
    refine go_callV (vs := [aA x7, aI x9, aI v1]) (stk := []) (o1 := (none, x10)) mk_X0_addDocument sv_X7_makeVersion_167 cl_X0 rfl dX7_makeVersion_67 c3 rfl rfl (Nat.le_of_ble_eq_true rfl) (Nat.le_of_ble_eq_true rfl) (ok_X0_addDocument ex10) (show Go M_X7_makeVersion (none, r) 70 [some (aA v0), some (aI v1), some (aI x2)] [] x10 from ?_)
    refine go_goto (tgt := 180) dX7_makeVersion_70 (by decide) ?_
    obtain rfl := Option.some.inj H
    exact go_return dX7_makeVersion_180 rfl
  · replace H := (gm_ite H).2 c2
    by_cases c4 : x4 = (9 : Int32)
    · replace H := (gm_ite H).1 c4
      refine go_eqI c4 ?_
      refine go_tableIn (tgt := 73) dX7_makeVersion_16 (by decide) (by decide) rfl (by decide) ?_
      refine go_aloadn dX7_makeVersion_73 rfl ?_
      refine gm_getR fd_X7_21 dX7_makeVersion_74 H (fun x11 H => ?_)
      refine go_iloadn dX7_makeVersion_77 rfl ?_
      refine go_aloadn dX7_makeVersion_78 rfl ?_
      refine gm_getR fd_X7_12 dX7_makeVersion_79 H (fun x12 H => ?_)
      refine go_iconst (v := (1 : Int32)) dX7_makeVersion_82 rfl ?_
      obtain ⟨c5, x13, ex13, H⟩ := gm_rc H
      refine go_callV (vs := [aI (1 : Int32)]) (stk := [aI x2, aA x11]) (o1 := (some (aI x13), h)) mk_X4_value sv_X7_makeVersion_94 cl_X4 rfl dX7_makeVersion_83 c5 rfl rfl (Nat.le_of_ble_eq_true rfl) (Nat.le_of_ble_eq_true rfl) (ok_X4_value ex13) (show Go M_X7_makeVersion (none, r) 86 [some (aA v0), some (aI v1), some (aI x2)] [aI x13, aI x2, aA x11] h from ?_)
      refine go_aloadn dX7_makeVersion_86 rfl ?_
      refine gm_getR fd_X7_12 dX7_makeVersion_87 H (fun x14 H => ?_)
      refine gm_getR fd_X7_164 dX7_makeVersion_90 H (fun x15 H => ?_)
      refine go_aloadn dX7_makeVersion_93 rfl ?_
      refine gm_getR fd_X7_12 dX7_makeVersion_94 H (fun x16 H => ?_)
      refine gm_getI fd_X7_158 dX7_makeVersion_97 H (fun x17 H => ?_)
      refine go_iloadn dX7_makeVersion_100 rfl ?_
      obtain ⟨c6, x18, ex18, H⟩ := gm_rc H
      refine go_callV (vs := [aI x2, aI x13, aA x15, aI x17, aI v1]) (stk := []) (o1 := (none, x18)) mk_X0_putWords sv_X7_makeVersion_171 cl_X0 rfl dX7_makeVersion_101 c6 rfl rfl (Nat.le_of_ble_eq_true rfl) (Nat.le_of_ble_eq_true rfl) (ok_X0_putWords ex18) (show Go M_X7_makeVersion (none, r) 104 [some (aA v0), some (aI v1), some (aI x2)] [] x18 from ?_)
      refine go_goto (tgt := 180) dX7_makeVersion_104 (by decide) ?_
      obtain rfl := Option.some.inj H
      exact go_return dX7_makeVersion_180 rfl
    · replace H := (gm_ite H).2 c4
      by_cases c7 : x4 = (10 : Int32)
      · replace H := (gm_ite H).1 c7
        refine go_eqI c7 ?_
        refine go_tableIn (tgt := 107) dX7_makeVersion_16 (by decide) (by decide) rfl (by decide) ?_
        refine go_aloadn dX7_makeVersion_107 rfl ?_
        refine gm_getR fd_X7_21 dX7_makeVersion_108 H (fun x19 H => ?_)
        refine go_iloadn dX7_makeVersion_111 rfl ?_
        refine go_aloadn dX7_makeVersion_112 rfl ?_
        refine gm_getR fd_X7_12 dX7_makeVersion_113 H (fun x20 H => ?_)
        refine go_iconst (v := (1 : Int32)) dX7_makeVersion_116 rfl ?_
        obtain ⟨c8, x21, ex21, H⟩ := gm_rc H
        refine go_callV (vs := [aI (1 : Int32)]) (stk := [aI x2, aA x19]) (o1 := (some (aI x21), h)) mk_X4_value sv_X7_makeVersion_94 cl_X4 rfl dX7_makeVersion_117 c8 rfl rfl (Nat.le_of_ble_eq_true rfl) (Nat.le_of_ble_eq_true rfl) (ok_X4_value ex21) (show Go M_X7_makeVersion (none, r) 120 [some (aA v0), some (aI v1), some (aI x2)] [aI x21, aI x2, aA x19] h from ?_)
        refine go_aloadn dX7_makeVersion_120 rfl ?_
        refine gm_getR fd_X7_12 dX7_makeVersion_121 H (fun x22 H => ?_)
        refine go_iconst (v := (2 : Int32)) dX7_makeVersion_124 rfl ?_
        obtain ⟨c9, x23, ex23, H⟩ := gm_rc H
        refine go_callV (vs := [aI (2 : Int32)]) (stk := [aI x21, aI x2, aA x19]) (o1 := (some (aI x23), h)) mk_X4_value sv_X7_makeVersion_94 cl_X4 rfl dX7_makeVersion_125 c9 rfl rfl (Nat.le_of_ble_eq_true rfl) (Nat.le_of_ble_eq_true rfl) (ok_X4_value ex23) (show Go M_X7_makeVersion (none, r) 128 [some (aA v0), some (aI v1), some (aI x2)] [aI x23, aI x21, aI x2, aA x19] h from ?_)
        refine go_iloadn dX7_makeVersion_128 rfl ?_
        obtain ⟨c10, x24, ex24, H⟩ := gm_rc H
        refine go_callV (vs := [aI x2, aI x21, aI x23, aI v1]) (stk := []) (o1 := (none, x24)) mk_X0_cutWords sv_X7_makeVersion_175 cl_X0 rfl dX7_makeVersion_129 c10 rfl rfl (Nat.le_of_ble_eq_true rfl) (Nat.le_of_ble_eq_true rfl) (ok_X0_cutWords ex24) (show Go M_X7_makeVersion (none, r) 132 [some (aA v0), some (aI v1), some (aI x2)] [] x24 from ?_)
        refine go_goto (tgt := 180) dX7_makeVersion_132 (by decide) ?_
        obtain rfl := Option.some.inj H
        exact go_return dX7_makeVersion_180 rfl
      · replace H := (gm_ite H).2 c7
        by_cases c11 : x4 = (11 : Int32)
        · replace H := (gm_ite H).1 c11
          refine go_eqI c11 ?_
          refine go_tableIn (tgt := 135) dX7_makeVersion_16 (by decide) (by decide) rfl (by decide) ?_
          refine go_aloadn dX7_makeVersion_135 rfl ?_
          refine gm_getR fd_X7_21 dX7_makeVersion_136 H (fun x25 H => ?_)
          refine go_iloadn dX7_makeVersion_139 rfl ?_
          refine go_aloadn dX7_makeVersion_140 rfl ?_
          refine gm_getR fd_X7_12 dX7_makeVersion_141 H (fun x26 H => ?_)
          refine go_iconst (v := (1 : Int32)) dX7_makeVersion_144 rfl ?_
          obtain ⟨c12, x27, ex27, H⟩ := gm_rc H
          refine go_callV (vs := [aI (1 : Int32)]) (stk := [aI x2, aA x25]) (o1 := (some (aI x27), h)) mk_X4_value sv_X7_makeVersion_94 cl_X4 rfl dX7_makeVersion_145 c12 rfl rfl (Nat.le_of_ble_eq_true rfl) (Nat.le_of_ble_eq_true rfl) (ok_X4_value ex27) (show Go M_X7_makeVersion (none, r) 148 [some (aA v0), some (aI v1), some (aI x2)] [aI x27, aI x2, aA x25] h from ?_)
          refine go_aloadn dX7_makeVersion_148 rfl ?_
          refine gm_getR fd_X7_12 dX7_makeVersion_149 H (fun x28 H => ?_)
          refine go_iconst (v := (2 : Int32)) dX7_makeVersion_152 rfl ?_
          obtain ⟨c13, x29, ex29, H⟩ := gm_rc H
          refine go_callV (vs := [aI (2 : Int32)]) (stk := [aI x27, aI x2, aA x25]) (o1 := (some (aI x29), h)) mk_X4_value sv_X7_makeVersion_94 cl_X4 rfl dX7_makeVersion_153 c13 rfl rfl (Nat.le_of_ble_eq_true rfl) (Nat.le_of_ble_eq_true rfl) (ok_X4_value ex29) (show Go M_X7_makeVersion (none, r) 156 [some (aA v0), some (aI v1), some (aI x2)] [aI x29, aI x27, aI x2, aA x25] h from ?_)
          refine go_iloadn dX7_makeVersion_156 rfl ?_
          obtain ⟨c14, x30, ex30, H⟩ := gm_rc H
          refine go_callV (vs := [aI x2, aI x27, aI x29, aI v1]) (stk := []) (o1 := (none, x30)) mk_X0_moveWord sv_X7_makeVersion_179 cl_X0 rfl dX7_makeVersion_157 c14 rfl rfl (Nat.le_of_ble_eq_true rfl) (Nat.le_of_ble_eq_true rfl) (ok_X0_moveWord ex30) (show Go M_X7_makeVersion (none, r) 160 [some (aA v0), some (aI v1), some (aI x2)] [] x30 from ?_)
          refine go_goto (tgt := 180) dX7_makeVersion_160 (by decide) ?_
          obtain rfl := Option.some.inj H
          exact go_return dX7_makeVersion_180 rfl
        · replace H := (gm_ite H).2 c11
          refine go_tableOut (tgt := 163) dX7_makeVersion_16 (sw_out (fun i h1 h2 e => ?_)) (by decide) ?_
          · have h3 : i = 8 ∨ i = 9 ∨ i = 10 ∨ i = 11 := by omega
            rcases h3 with rfl | rfl | rfl | rfl
            · exact sw_ne c2 (by decide) e
            · exact sw_ne c4 (by decide) e
            · exact sw_ne c7 (by decide) e
            · exact sw_ne c11 (by decide) e
          · skip
            refine go_aloadn dX7_makeVersion_163 rfl ?_
            refine gm_getR fd_X7_21 dX7_makeVersion_164 H (fun x31 H => ?_)
            refine go_iloadn dX7_makeVersion_167 rfl ?_
            refine go_aloadn dX7_makeVersion_168 rfl ?_
            refine gm_getR fd_X7_12 dX7_makeVersion_169 H (fun x32 H => ?_)
            refine go_iconst (v := (1 : Int32)) dX7_makeVersion_172 rfl ?_
            obtain ⟨c15, x33, ex33, H⟩ := gm_rc H
            refine go_callV (vs := [aI (1 : Int32)]) (stk := [aI x2, aA x31]) (o1 := (some (aI x33), h)) mk_X4_value sv_X7_makeVersion_94 cl_X4 rfl dX7_makeVersion_173 c15 rfl rfl (Nat.le_of_ble_eq_true rfl) (Nat.le_of_ble_eq_true rfl) (ok_X4_value ex33) (show Go M_X7_makeVersion (none, r) 176 [some (aA v0), some (aI v1), some (aI x2)] [aI x33, aI x2, aA x31] h from ?_)
            refine go_iloadn dX7_makeVersion_176 rfl ?_
            obtain ⟨c16, x34, ex34, H⟩ := gm_rc H
            refine go_callV (vs := [aI x2, aI x33, aI v1]) (stk := []) (o1 := (none, x34)) mk_X0_goBack sv_X7_makeVersion_182 cl_X0 rfl dX7_makeVersion_177 c16 rfl rfl (Nat.le_of_ble_eq_true rfl) (Nat.le_of_ble_eq_true rfl) (ok_X0_goBack ex34) (show Go M_X7_makeVersion (none, r) 180 [some (aA v0), some (aI v1), some (aI x2)] [] x34 from ?_)
            obtain rfl := Option.some.inj H
            exact go_return dX7_makeVersion_180 rfl
/-! X7_takeVersion -/
def j_X7_takeVersion_89 (v0 : Nat) (v1 : Int32)  (h : Hp) : Option Hp :=
  (gfI h v0 7 4).bind fun x1 => if ¬ x1 = 0 then (some h) else (rc h v0 7 (m_X7_makeVersion v0 v1 h)).bind fun x2 => some x2
set_option maxRecDepth 20000 in
theorem okj_X7_takeVersion_89 {r : Hp} (v0 : Nat) (v1 : Int32)  (h : Hp) (H : j_X7_takeVersion_89 v0 v1 h = some r) : Go M_X7_takeVersion (none, r) 89 [some (aA v0), some (aI v1)] [] h := by
  unfold j_X7_takeVersion_89 at H
  refine go_aloadn dX7_takeVersion_89 rfl ?_
  refine gm_getI fd_X7_39 dX7_takeVersion_90 H (fun x1 H => ?_)
  refine go_if_ne (tgt := 101) dX7_takeVersion_93 (by decide) (fun c1 => ?_) (fun c1 => ?_)
  · replace H := (gm_ite H).1 c1
    obtain rfl := Option.some.inj H
    exact go_return dX7_takeVersion_101 rfl
  · replace H := (gm_ite H).2 c1
    refine go_aloadn dX7_takeVersion_96 rfl ?_
    refine go_iloadn dX7_takeVersion_97 rfl ?_
    obtain ⟨c2, x2, ex2, H⟩ := gm_rc H
    refine go_callV (vs := [aI v1]) (stk := []) (o1 := (none, x2)) mk_X7_makeVersion sv_X7_takeVersion_141 cl_X7 rfl dX7_takeVersion_98 c2 rfl rfl (Nat.le_of_ble_eq_true rfl) (Nat.le_of_ble_eq_true rfl) (ok_X7_makeVersion ex2) (show Go M_X7_takeVersion (none, r) 101 [some (aA v0), some (aI v1)] [] x2 from ?_)
    obtain rfl := Option.some.inj H
    exact go_return dX7_takeVersion_101 rfl
def j_X7_takeVersion_55 (v0 : Nat) (v1 : Int32)  (h : Hp) : Option Hp :=
  (gfR h v0 7 0).bind fun x1 => (gfI h x1 5 0).bind fun x2 => if ¬ x2 = (9 : Int32) then j_X7_takeVersion_89 v0 v1 h else (gfR h v0 7 1).bind fun x3 => (gfR h v0 7 0).bind fun x4 => (rc h x4 5 (m_X4_value x4 (0 : Int32) h)).bind fun x5 => (rc h x3 1 (m_X0_latestLength x3 x5 h)).bind fun x6 => (rc h v0 7 (m_X7_noteTooManyWords v0 ((20 : Int32) - x6) h)).bind fun x7 => j_X7_takeVersion_89 v0 v1 x7
set_option maxRecDepth 20000 in
theorem okj_X7_takeVersion_55 {r : Hp} (v0 : Nat) (v1 : Int32)  (h : Hp) (H : j_X7_takeVersion_55 v0 v1 h = some r) : Go M_X7_takeVersion (none, r) 55 [some (aA v0), some (aI v1)] [] h := by
  unfold j_X7_takeVersion_55 at H
  refine go_aloadn dX7_takeVersion_55 rfl ?_
  refine gm_getR fd_X7_12 dX7_takeVersion_56 H (fun x1 H => ?_)
  refine gm_getI fd_X7_117 dX7_takeVersion_59 H (fun x2 H => ?_)
  refine go_bipush (v := (9 : Int32)) dX7_takeVersion_62 rfl ?_
  refine go_icmp_ne (tgt := 89) dX7_takeVersion_64 (by decide) (fun c1 => ?_) (fun c1 => ?_)
  · replace H := (gm_ite H).1 c1
    exact okj_X7_takeVersion_89 v0 v1 h  H
  · replace H := (gm_ite H).2 c1
    refine go_aloadn dX7_takeVersion_67 rfl ?_
    refine go_bipush (v := (20 : Int32)) dX7_takeVersion_68 rfl ?_
    refine go_aloadn dX7_takeVersion_70 rfl ?_
    refine gm_getR fd_X7_21 dX7_takeVersion_71 H (fun x3 H => ?_)
    refine go_aloadn dX7_takeVersion_74 rfl ?_
    refine gm_getR fd_X7_12 dX7_takeVersion_75 H (fun x4 H => ?_)
    refine go_iconst (v := (0 : Int32)) dX7_takeVersion_78 rfl ?_
    obtain ⟨c2, x5, ex5, H⟩ := gm_rc H
    refine go_callV (vs := [aI (0 : Int32)]) (stk := [aA x3, aI (20 : Int32), aA v0]) (o1 := (some (aI x5), h)) mk_X4_value sv_X7_takeVersion_94 cl_X4 rfl dX7_takeVersion_79 c2 rfl rfl (Nat.le_of_ble_eq_true rfl) (Nat.le_of_ble_eq_true rfl) (ok_X4_value ex5) (show Go M_X7_takeVersion (none, r) 82 [some (aA v0), some (aI v1)] [aI x5, aA x3, aI (20 : Int32), aA v0] h from ?_)
    obtain ⟨c3, x6, ex6, H⟩ := gm_rc H
    refine go_callV (vs := [aI x5]) (stk := [aI (20 : Int32), aA v0]) (o1 := (some (aI x6), h)) mk_X0_latestLength sv_X7_takeVersion_138 cl_X0 rfl dX7_takeVersion_82 c3 rfl rfl (Nat.le_of_ble_eq_true rfl) (Nat.le_of_ble_eq_true rfl) (ok_X0_latestLength ex6) (show Go M_X7_takeVersion (none, r) 85 [some (aA v0), some (aI v1)] [aI x6, aI (20 : Int32), aA v0] h from ?_)
    refine go_isub dX7_takeVersion_85 ?_
    obtain ⟨c4, x7, ex7, H⟩ := gm_rc H
    refine go_callV (vs := [aI ((20 : Int32) - x6)]) (stk := []) (o1 := (none, x7)) mk_X7_noteTooManyWords sv_X7_takeVersion_132 cl_X7 rfl dX7_takeVersion_86 c4 rfl rfl (Nat.le_of_ble_eq_true rfl) (Nat.le_of_ble_eq_true rfl) (ok_X7_noteTooManyWords ex7) (show Go M_X7_takeVersion (none, r) 89 [some (aA v0), some (aI v1)] [] x7 from ?_)
    exact okj_X7_takeVersion_89 v0 v1 x7  H
def j_X7_takeVersion_35 (v0 : Nat) (v1 : Int32)  (h : Hp) : Option Hp :=
  (rc h v0 7 (m_X7_noteTooManyWords v0 (20 : Int32) h)).bind fun x1 => j_X7_takeVersion_89 v0 v1 x1
set_option maxRecDepth 20000 in
theorem okj_X7_takeVersion_35 {r : Hp} (v0 : Nat) (v1 : Int32)  (h : Hp) (H : j_X7_takeVersion_35 v0 v1 h = some r) : Go M_X7_takeVersion (none, r) 35 [some (aA v0), some (aI v1)] [] h := by
  unfold j_X7_takeVersion_35 at H
  refine go_aloadn dX7_takeVersion_35 rfl ?_
  refine go_bipush (v := (20 : Int32)) dX7_takeVersion_36 rfl ?_
  obtain ⟨c1, x1, ex1, H⟩ := gm_rc H
  refine go_callV (vs := [aI (20 : Int32)]) (stk := []) (o1 := (none, x1)) mk_X7_noteTooManyWords sv_X7_takeVersion_132 cl_X7 rfl dX7_takeVersion_38 c1 rfl rfl (Nat.le_of_ble_eq_true rfl) (Nat.le_of_ble_eq_true rfl) (ok_X7_noteTooManyWords ex1) (show Go M_X7_takeVersion (none, r) 41 [some (aA v0), some (aI v1)] [] x1 from ?_)
  refine go_goto (tgt := 89) dX7_takeVersion_41 (by decide) ?_
  exact okj_X7_takeVersion_89 v0 v1 x1  H
def m_X7_takeVersion (v0 : Nat) (v1 : Int32) (h : Hp) : Option Hp :=
  (gfR h v0 7 0).bind fun x1 => (gfI h x1 5 0).bind fun x2 => if ¬ x2 = (8 : Int32) then ((gfI h v0 7 4).bind fun x3 => if ¬ x3 = 0 then j_X7_takeVersion_55 v0 v1 h else (rc h v0 7 (m_X7_noteFirstToken v0 h)).bind fun x4 => j_X7_takeVersion_55 v0 v1 x4) else (gfR h v0 7 1).bind fun x5 => (gfI h x5 1 0).bind fun x6 => if x6 < (4 : Int32) then j_X7_takeVersion_35 v0 v1 h else (gfR h v0 7 0).bind fun x7 => (gfI h x7 5 1).bind fun x8 => (rc h v0 7 (m_X7_note v0 (3 : Int32) x8 h)).bind fun x9 => j_X7_takeVersion_35 v0 v1 x9
set_option maxRecDepth 20000 in
theorem ok_X7_takeVersion {r : Hp} {v0 : Nat} {v1 : Int32} {h : Hp} (H : m_X7_takeVersion v0 v1 h = some r) : Ev M_X7_takeVersion [aA v0, aI v1] h (none, r) := by
  show Go M_X7_takeVersion (none, r) 0 [some (aA v0), some (aI v1)] [] h
  unfold m_X7_takeVersion at H
  refine go_aloadn dX7_takeVersion_0 rfl ?_
  refine gm_getR fd_X7_12 dX7_takeVersion_1 H (fun x1 H => ?_)
  refine gm_getI fd_X7_117 dX7_takeVersion_4 H (fun x2 H => ?_)
  refine go_bipush (v := (8 : Int32)) dX7_takeVersion_7 rfl ?_
  refine go_icmp_ne (tgt := 44) dX7_takeVersion_9 (by decide) (fun c1 => ?_) (fun c1 => ?_)
  · replace H := (gm_ite H).1 c1
    refine go_aloadn dX7_takeVersion_44 rfl ?_
    refine gm_getI fd_X7_39 dX7_takeVersion_45 H (fun x3 H => ?_)
    refine go_if_ne (tgt := 55) dX7_takeVersion_48 (by decide) (fun c2 => ?_) (fun c2 => ?_)
    · replace H := (gm_ite H).1 c2
      exact okj_X7_takeVersion_55 v0 v1 h  H
    · replace H := (gm_ite H).2 c2
      refine go_aloadn dX7_takeVersion_51 rfl ?_
      obtain ⟨c3, x4, ex4, H⟩ := gm_rc H
      refine go_callV (vs := []) (stk := []) (o1 := (none, x4)) mk_X7_noteFirstToken sv_X7_takeVersion_135 cl_X7 rfl dX7_takeVersion_52 c3 rfl rfl (Nat.le_of_ble_eq_true rfl) (Nat.le_of_ble_eq_true rfl) (ok_X7_noteFirstToken ex4) (show Go M_X7_takeVersion (none, r) 55 [some (aA v0), some (aI v1)] [] x4 from ?_)
      exact okj_X7_takeVersion_55 v0 v1 x4  H
  · replace H := (gm_ite H).2 c1
    refine go_aloadn dX7_takeVersion_12 rfl ?_
    refine gm_getR fd_X7_21 dX7_takeVersion_13 H (fun x5 H => ?_)
    refine gm_getI fd_X7_126 dX7_takeVersion_16 H (fun x6 H => ?_)
    refine go_iconst (v := (4 : Int32)) dX7_takeVersion_19 rfl ?_
    refine go_icmp_lt (tgt := 35) dX7_takeVersion_20 (by decide) (fun c4 => ?_) (fun c4 => ?_)
    · replace H := (gm_ite H).1 c4
      exact okj_X7_takeVersion_35 v0 v1 h  H
    · replace H := (gm_ite H).2 c4
      refine go_aloadn dX7_takeVersion_23 rfl ?_
      refine go_iconst (v := (3 : Int32)) dX7_takeVersion_24 rfl ?_
      refine go_aloadn dX7_takeVersion_25 rfl ?_
      refine gm_getR fd_X7_12 dX7_takeVersion_26 H (fun x7 H => ?_)
      refine gm_getI fd_X7_129 dX7_takeVersion_29 H (fun x8 H => ?_)
      obtain ⟨c5, x9, ex9, H⟩ := gm_rc H
      refine go_callV (vs := [aI (3 : Int32), aI x8]) (stk := []) (o1 := (none, x9)) mk_X7_note sv_X7_takeVersion_87 cl_X7 rfl dX7_takeVersion_32 c5 rfl rfl (Nat.le_of_ble_eq_true rfl) (Nat.le_of_ble_eq_true rfl) (ok_X7_note ex9) (show Go M_X7_takeVersion (none, r) 35 [some (aA v0), some (aI v1)] [] x9 from ?_)
      exact okj_X7_takeVersion_35 v0 v1 x9  H
/-! X6_wordsOf -/
def m_X6_wordsOf (v0 : Nat) (v1 : Int32) (h : Hp) : Option Int32 :=
  (gfR h v0 6 3).bind fun x1 => (m_X5_at x1 v1 h).bind fun x2 => some x2
set_option maxRecDepth 20000 in
theorem ok_X6_wordsOf {r : Int32} {v0 : Nat} {v1 : Int32} {h : Hp} (H : m_X6_wordsOf v0 v1 h = some r) : Ev M_X6_wordsOf [aA v0, aI v1] h (some (aI r), h) := by
  show Go M_X6_wordsOf (some (aI r), h) 0 [some (aA v0), some (aI v1)] [] h
  unfold m_X6_wordsOf at H
  refine go_aloadn dX6_wordsOf_0 rfl ?_
  refine gm_getR fd_X6_22 dX6_wordsOf_1 H (fun x1 H => ?_)
  refine go_iloadn dX6_wordsOf_4 rfl ?_
  obtain ⟨x2, ex2, H⟩ := bind_some H
  refine go_callS (vs := [aA x1, aI v1]) (stk := []) (o1 := (some (aI x2), h)) mk_X5_at ss_X6_wordsOf_60 dX6_wordsOf_5 rfl rfl (Nat.le_of_ble_eq_true rfl) (Nat.le_of_ble_eq_true rfl) (ok_X5_at ex2) (show Go M_X6_wordsOf (some (aI r), h) 8 [some (aA v0), some (aI v1)] [aI x2] h from ?_)
  obtain rfl := Option.some.inj H
  exact go_ireturn dX6_wordsOf_8 (tyI_int rfl)
/-! X6_add -/
def j_X6_add_83 (v0 : Nat) (v1 : Nat) (v2 : Int32) (v3 : Int32) (s0 : Nat) (s1 : Int32) (s2 : Int32) (h : Hp) (K92 : Hp → Option Hp) (k : Int32 → Hp → Option Hp) : Option Hp :=
  (m_X5_set s0 s1 s2 h).bind fun x1 => k (v3 + (1 : Int32)) x1
set_option maxRecDepth 20000 in
theorem okj_X6_add_83 {r : Hp} (v0 : Nat) (v1 : Nat) (v2 : Int32) (v3 : Int32) (s0 : Nat) (s1 : Int32) (s2 : Int32) (h : Hp) (K92 : Hp → Option Hp) (k : Int32 → Hp → Option Hp) (HK92 : ∀   (hq : Hp), K92 hq = some r → Go M_X6_add (none, r) 92 [some (aA v0), some (aA v1), some (aI v2), none] [] hq) (Hk : ∀ (v3q : Int32) (hq : Hp), k v3q hq = some r → Go M_X6_add (none, r) 52 [some (aA v0), some (aA v1), some (aI v2), some (aI v3q)] [] hq) (H : j_X6_add_83 v0 v1 v2 v3 s0 s1 s2 h K92 k = some r) : Go M_X6_add (none, r) 83 [some (aA v0), some (aA v1), some (aI v2), some (aI v3)] [aI s2, aI s1, aA s0] h := by
  unfold j_X6_add_83 at H
  obtain ⟨x1, ex1, H⟩ := bind_some H
  refine go_callS (vs := [aA s0, aI s1, aI s2]) (stk := []) (o1 := (none, x1)) mk_X5_set ss_X6_add_39 dX6_add_83 rfl rfl (Nat.le_of_ble_eq_true rfl) (Nat.le_of_ble_eq_true rfl) (ok_X5_set ex1) (show Go M_X6_add (none, r) 86 [some (aA v0), some (aA v1), some (aI v2), some (aI v3)] [] x1 from ?_)
  refine go_iinc (v := (v3 + (1 : Int32))) (loc2 := [some (aA v0), some (aA v1), some (aI v2), some (aI (v3 + (1 : Int32)))]) dX6_add_86 rfl rfl (by decide) rfl ?_
  refine go_goto (tgt := 52) dX6_add_89 (by decide) ?_
  exact Hk (v3 + (1 : Int32)) x1 H
def b_X6_add_52 (v0 : Nat) (v1 : Nat) (v2 : Int32) (K92 : Hp → Option Hp) (k : Int32 → Hp → Option Hp) (v3 : Int32) (h : Hp) : Option Hp :=
  if (2 : Int32) ≤ v3 then K92 h else (gfR h v0 6 2).bind fun x1 => (gfI h v1 5 2).bind fun x2 => if x2 ≤ v3 then j_X6_add_83 v0 v1 v2 v3 x1 ((v2 * (2 : Int32)) + v3) (-1 : Int32) h K92 k else (rc h v1 5 (m_X4_value v1 v3 h)).bind fun x3 => j_X6_add_83 v0 v1 v2 v3 x1 ((v2 * (2 : Int32)) + v3) x3 h K92 k
set_option maxRecDepth 20000 in
theorem okb_X6_add_52 {r : Hp} (v0 : Nat) (v1 : Nat) (v2 : Int32) (K92 : Hp → Option Hp) (k : Int32 → Hp → Option Hp) (v3 : Int32) (h : Hp) (HK92 : ∀   (hq : Hp), K92 hq = some r → Go M_X6_add (none, r) 92 [some (aA v0), some (aA v1), some (aI v2), none] [] hq) (Hk : ∀ (v3q : Int32) (hq : Hp), k v3q hq = some r → Go M_X6_add (none, r) 52 [some (aA v0), some (aA v1), some (aI v2), some (aI v3q)] [] hq) (H : b_X6_add_52 v0 v1 v2 K92 k v3 h = some r) : Go M_X6_add (none, r) 52 [some (aA v0), some (aA v1), some (aI v2), some (aI v3)] [] h := by
  unfold b_X6_add_52 at H
  refine go_iloadn dX6_add_52 rfl ?_
  refine go_iconst (v := (2 : Int32)) dX6_add_53 rfl ?_
  refine go_icmp_ge (tgt := 92) dX6_add_54 (by decide) (fun c1 => ?_) (fun c1 => ?_)
  · replace H := (gm_ite H).1 c1
    refine go_mask [true, true, true, false] (loc' := [some (aA v0), some (aA v1), some (aI v2), none]) rfl ?_
    exact HK92 h H
  · replace H := (gm_ite H).2 c1
    refine go_aloadn dX6_add_57 rfl ?_
    refine gm_getR fd_X6_19 dX6_add_58 H (fun x1 H => ?_)
    refine go_iloadn dX6_add_61 rfl ?_
    refine go_iconst (v := (2 : Int32)) dX6_add_62 rfl ?_
    refine go_imul dX6_add_63 ?_
    refine go_iloadn dX6_add_64 rfl ?_
    refine go_iadd dX6_add_65 ?_
    refine go_iloadn dX6_add_66 rfl ?_
    refine go_aloadn dX6_add_67 rfl ?_
    refine gm_getI fd_X6_52 dX6_add_68 H (fun x2 H => ?_)
    refine go_icmp_ge (tgt := 82) dX6_add_71 (by decide) (fun c2 => ?_) (fun c2 => ?_)
    · replace H := (gm_ite H).1 c2
      refine go_iconst (v := (-1 : Int32)) dX6_add_82 rfl ?_
      exact okj_X6_add_83 v0 v1 v2 v3 x1 ((v2 * (2 : Int32)) + v3) (-1 : Int32) h K92 k HK92 Hk H
    · replace H := (gm_ite H).2 c2
      refine go_aloadn dX6_add_74 rfl ?_
      refine go_iloadn dX6_add_75 rfl ?_
      obtain ⟨c3, x3, ex3, H⟩ := gm_rc H
      refine go_callV (vs := [aI v3]) (stk := [aI ((v2 * (2 : Int32)) + v3), aA x1]) (o1 := (some (aI x3), h)) mk_X4_value sv_X6_add_55 cl_X4 rfl dX6_add_76 c3 rfl rfl (Nat.le_of_ble_eq_true rfl) (Nat.le_of_ble_eq_true rfl) (ok_X4_value ex3) (show Go M_X6_add (none, r) 79 [some (aA v0), some (aA v1), some (aI v2), some (aI v3)] [aI x3, aI ((v2 * (2 : Int32)) + v3), aA x1] h from ?_)
      refine go_goto (tgt := 83) dX6_add_79 (by decide) ?_
      exact okj_X6_add_83 v0 v1 v2 v3 x1 ((v2 * (2 : Int32)) + v3) x3 h K92 k HK92 Hk H
def l_X6_add_52 (v0 : Nat) (v1 : Nat) (v2 : Int32) (K92 : Hp → Option Hp) (v3 : Int32) (h : Hp) : Option Hp := loopK FUEL (fun (k : Int32 × Hp → Option Hp) (s : Int32 × Hp) => b_X6_add_52 v0 v1 v2 K92 (fun v3q hq => k (v3q, hq)) s.1 s.2) (v3, h)
theorem okl_X6_add_52 {r : Hp} (v0 : Nat) (v1 : Nat) (v2 : Int32) (K92 : Hp → Option Hp) (v3 : Int32) (h : Hp) (HK92 : ∀   (hq : Hp), K92 hq = some r → Go M_X6_add (none, r) 92 [some (aA v0), some (aA v1), some (aI v2), none] [] hq) (H : l_X6_add_52 v0 v1 v2 K92 v3 h = some r) : Go M_X6_add (none, r) 52 [some (aA v0), some (aA v1), some (aI v2), some (aI v3)] [] h := by
  unfold l_X6_add_52 at H
  exact go_loop (σ := Int32 × Hp) (body := (fun (k : Int32 × Hp → Option Hp) (s : Int32 × Hp) => b_X6_add_52 v0 v1 v2 K92 (fun v3q hq => k (v3q, hq)) s.1 s.2)) (fun s => [some (aA v0), some (aA v1), some (aI v2), some (aI s.1)]) (fun s => s.2) (fun k s Hk H => okb_X6_add_52 v0 v1 v2 K92 (fun v3q hq => k (v3q, hq)) s.1 s.2 HK92 (fun v3q hq H => Hk (v3q, hq) H) H) FUEL (v3, h) H
def b_X6_add_94 (v0 : Nat) (v1 : Nat) (v2 : Int32) (K125 : Hp → Option Hp) (k : Int32 → Hp → Option Hp) (v3 : Int32) (h : Hp) : Option Hp :=
  if (4 : Int32) ≤ v3 then K125 h else (gfR h v0 6 4).bind fun x1 => (gfR h v1 5 7).bind fun x2 => (m_X5_at x2 v3 h).bind fun x3 => (m_X5_set x1 ((v2 * (4 : Int32)) + v3) x3 h).bind fun x4 => k (v3 + (1 : Int32)) x4
set_option maxRecDepth 20000 in
theorem okb_X6_add_94 {r : Hp} (v0 : Nat) (v1 : Nat) (v2 : Int32) (K125 : Hp → Option Hp) (k : Int32 → Hp → Option Hp) (v3 : Int32) (h : Hp) (HK125 : ∀   (hq : Hp), K125 hq = some r → Go M_X6_add (none, r) 125 [some (aA v0), some (aA v1), some (aI v2), none] [] hq) (Hk : ∀ (v3q : Int32) (hq : Hp), k v3q hq = some r → Go M_X6_add (none, r) 94 [some (aA v0), some (aA v1), some (aI v2), some (aI v3q)] [] hq) (H : b_X6_add_94 v0 v1 v2 K125 k v3 h = some r) : Go M_X6_add (none, r) 94 [some (aA v0), some (aA v1), some (aI v2), some (aI v3)] [] h := by
  unfold b_X6_add_94 at H
  refine go_iloadn dX6_add_94 rfl ?_
  refine go_iconst (v := (4 : Int32)) dX6_add_95 rfl ?_
  refine go_icmp_ge (tgt := 125) dX6_add_96 (by decide) (fun c1 => ?_) (fun c1 => ?_)
  · replace H := (gm_ite H).1 c1
    refine go_mask [true, true, true, false] (loc' := [some (aA v0), some (aA v1), some (aI v2), none]) rfl ?_
    exact HK125 h H
  · replace H := (gm_ite H).2 c1
    refine go_aloadn dX6_add_99 rfl ?_
    refine gm_getR fd_X6_25 dX6_add_100 H (fun x1 H => ?_)
    refine go_iloadn dX6_add_103 rfl ?_
    refine go_iconst (v := (4 : Int32)) dX6_add_104 rfl ?_
    refine go_imul dX6_add_105 ?_
    refine go_iloadn dX6_add_106 rfl ?_
    refine go_iadd dX6_add_107 ?_
    refine go_aloadn dX6_add_108 rfl ?_
    refine gm_getR fd_X6_59 dX6_add_109 H (fun x2 H => ?_)
    refine go_iloadn dX6_add_112 rfl ?_
    obtain ⟨x3, ex3, H⟩ := bind_some H
    refine go_callS (vs := [aA x2, aI v3]) (stk := [aI ((v2 * (4 : Int32)) + v3), aA x1]) (o1 := (some (aI x3), h)) mk_X5_at ss_X6_add_60 dX6_add_113 rfl rfl (Nat.le_of_ble_eq_true rfl) (Nat.le_of_ble_eq_true rfl) (ok_X5_at ex3) (show Go M_X6_add (none, r) 116 [some (aA v0), some (aA v1), some (aI v2), some (aI v3)] [aI x3, aI ((v2 * (4 : Int32)) + v3), aA x1] h from ?_)
    obtain ⟨x4, ex4, H⟩ := bind_some H
    refine go_callS (vs := [aA x1, aI ((v2 * (4 : Int32)) + v3), aI x3]) (stk := []) (o1 := (none, x4)) mk_X5_set ss_X6_add_39 dX6_add_116 rfl rfl (Nat.le_of_ble_eq_true rfl) (Nat.le_of_ble_eq_true rfl) (ok_X5_set ex4) (show Go M_X6_add (none, r) 119 [some (aA v0), some (aA v1), some (aI v2), some (aI v3)] [] x4 from ?_)
    refine go_iinc (v := (v3 + (1 : Int32))) (loc2 := [some (aA v0), some (aA v1), some (aI v2), some (aI (v3 + (1 : Int32)))]) dX6_add_119 rfl rfl (by decide) rfl ?_
    refine go_goto (tgt := 94) dX6_add_122 (by decide) ?_
    exact Hk (v3 + (1 : Int32)) x4 H
def l_X6_add_94 (v0 : Nat) (v1 : Nat) (v2 : Int32) (K125 : Hp → Option Hp) (v3 : Int32) (h : Hp) : Option Hp := loopK FUEL (fun (k : Int32 × Hp → Option Hp) (s : Int32 × Hp) => b_X6_add_94 v0 v1 v2 K125 (fun v3q hq => k (v3q, hq)) s.1 s.2) (v3, h)
theorem okl_X6_add_94 {r : Hp} (v0 : Nat) (v1 : Nat) (v2 : Int32) (K125 : Hp → Option Hp) (v3 : Int32) (h : Hp) (HK125 : ∀   (hq : Hp), K125 hq = some r → Go M_X6_add (none, r) 125 [some (aA v0), some (aA v1), some (aI v2), none] [] hq) (H : l_X6_add_94 v0 v1 v2 K125 v3 h = some r) : Go M_X6_add (none, r) 94 [some (aA v0), some (aA v1), some (aI v2), some (aI v3)] [] h := by
  unfold l_X6_add_94 at H
  exact go_loop (σ := Int32 × Hp) (body := (fun (k : Int32 × Hp → Option Hp) (s : Int32 × Hp) => b_X6_add_94 v0 v1 v2 K125 (fun v3q hq => k (v3q, hq)) s.1 s.2)) (fun s => [some (aA v0), some (aA v1), some (aI v2), some (aI s.1)]) (fun s => s.2) (fun k s Hk H => okb_X6_add_94 v0 v1 v2 K125 (fun v3q hq => k (v3q, hq)) s.1 s.2 HK125 (fun v3q hq H => Hk (v3q, hq) H) H) FUEL (v3, h) H
def j_X6_add_125 (v0 : Nat) (v1 : Nat) (v2 : Int32)  (h : Hp) : Option Hp :=
  (gfI h v1 5 0).bind fun x1 => if ¬ x1 = 0 then (some h) else (gfR h v0 6 2).bind fun x2 => (rc h v0 6 (m_X6_wordsOf v0 v2 h)).bind fun x3 => (m_X5_set x2 (v2 * (2 : Int32)) x3 h).bind fun x4 => some x4
set_option maxRecDepth 20000 in
theorem okj_X6_add_125 {r : Hp} (v0 : Nat) (v1 : Nat) (v2 : Int32)  (h : Hp) (H : j_X6_add_125 v0 v1 v2 h = some r) : Go M_X6_add (none, r) 125 [some (aA v0), some (aA v1), some (aI v2), none] [] h := by
  unfold j_X6_add_125 at H
  refine go_aloadn dX6_add_125 rfl ?_
  refine gm_getI fd_X6_34 dX6_add_126 H (fun x1 H => ?_)
  refine go_if_ne (tgt := 147) dX6_add_129 (by decide) (fun c1 => ?_) (fun c1 => ?_)
  · replace H := (gm_ite H).1 c1
    obtain rfl := Option.some.inj H
    exact go_return dX6_add_147 rfl
  · replace H := (gm_ite H).2 c1
    refine go_aloadn dX6_add_132 rfl ?_
    refine gm_getR fd_X6_19 dX6_add_133 H (fun x2 H => ?_)
    refine go_iloadn dX6_add_136 rfl ?_
    refine go_iconst (v := (2 : Int32)) dX6_add_137 rfl ?_
    refine go_imul dX6_add_138 ?_
    refine go_aloadn dX6_add_139 rfl ?_
    refine go_iloadn dX6_add_140 rfl ?_
    obtain ⟨c2, x3, ex3, H⟩ := gm_rc H
    refine go_callV (vs := [aI v2]) (stk := [aI (v2 * (2 : Int32)), aA x2]) (o1 := (some (aI x3), h)) mk_X6_wordsOf sv_X6_add_64 cl_X6 rfl dX6_add_141 c2 rfl rfl (Nat.le_of_ble_eq_true rfl) (Nat.le_of_ble_eq_true rfl) (ok_X6_wordsOf ex3) (show Go M_X6_add (none, r) 144 [some (aA v0), some (aA v1), some (aI v2), none] [aI x3, aI (v2 * (2 : Int32)), aA x2] h from ?_)
    obtain ⟨x4, ex4, H⟩ := bind_some H
    refine go_callS (vs := [aA x2, aI (v2 * (2 : Int32)), aI x3]) (stk := []) (o1 := (none, x4)) mk_X5_set ss_X6_add_39 dX6_add_144 rfl rfl (Nat.le_of_ble_eq_true rfl) (Nat.le_of_ble_eq_true rfl) (ok_X5_set ex4) (show Go M_X6_add (none, r) 147 [some (aA v0), some (aA v1), some (aI v2), none] [] x4 from ?_)
    obtain rfl := Option.some.inj H
    exact go_return dX6_add_147 rfl
def j_X6_add_92 (v0 : Nat) (v1 : Nat) (v2 : Int32)  (h : Hp) : Option Hp :=
  l_X6_add_94 v0 v1 v2 (fun hz1 => j_X6_add_125 v0 v1 v2 hz1) (0 : Int32) h
set_option maxRecDepth 20000 in
theorem okj_X6_add_92 {r : Hp} (v0 : Nat) (v1 : Nat) (v2 : Int32)  (h : Hp) (H : j_X6_add_92 v0 v1 v2 h = some r) : Go M_X6_add (none, r) 92 [some (aA v0), some (aA v1), some (aI v2), none] [] h := by
  unfold j_X6_add_92 at H
  refine go_iconst (v := (0 : Int32)) dX6_add_92 rfl ?_
  refine go_istoren (loc2 := [some (aA v0), some (aA v1), some (aI v2), some (aI (0 : Int32))]) dX6_add_93 rfl (by decide) rfl ?_
  refine okl_X6_add_94 v0 v1 v2 (fun hz1 => j_X6_add_125 v0 v1 v2 hz1) (0 : Int32) h ?_ H
  · intro hz1 H
    exact okj_X6_add_125 v0 v1 v2 hz1  H
def m_X6_add (v0 : Nat) (v1 : Nat) (h : Hp) : Option Hp :=
  (gfI h v0 6 0).bind fun x1 => if x1 < (8 : Int32) then ((gfI h v0 6 0).bind fun x2 => (pfI h v0 6 0 (x2 + (1 : Int32))).bind fun hh1 => (gfR hh1 v0 6 1).bind fun x3 => (gfI hh1 v1 5 0).bind fun x4 => (m_X5_set x3 x1 x4 hh1).bind fun x5 => (gfR x5 v0 6 3).bind fun x6 => (gfI x5 v1 5 3).bind fun x7 => (m_J9_min_7cf53 x7 (4 : Int32) x5).bind fun x8 => (m_X5_set x6 x1 x8 x5).bind fun x9 => l_X6_add_52 v0 v1 x1 (fun hz10 => j_X6_add_92 v0 v1 x1 hz10) (0 : Int32) x9) else some h
set_option maxRecDepth 20000 in
theorem ok_X6_add {r : Hp} {v0 : Nat} {v1 : Nat} {h : Hp} (H : m_X6_add v0 v1 h = some r) : Ev M_X6_add [aA v0, aA v1] h (none, r) := by
  show Go M_X6_add (none, r) 0 [some (aA v0), some (aA v1), none, none] [] h
  unfold m_X6_add at H
  refine go_aloadn dX6_add_0 rfl ?_
  refine gm_getI fd_X6_9 dX6_add_1 H (fun x1 H => ?_)
  refine go_istoren (loc2 := [some (aA v0), some (aA v1), some (aI x1), none]) dX6_add_4 rfl (by decide) rfl ?_
  refine go_iloadn dX6_add_5 rfl ?_
  refine go_bipush (v := (8 : Int32)) dX6_add_6 rfl ?_
  refine go_icmp_lt (tgt := 12) dX6_add_8 (by decide) (fun c1 => ?_) (fun c1 => ?_)
  · replace H := (gm_ite H).1 c1
    refine go_aloadn dX6_add_12 rfl ?_
    refine go_dupA dX6_add_13 ?_
    refine gm_getI fd_X6_9 dX6_add_14 H (fun x2 H => ?_)
    refine go_iconst (v := (1 : Int32)) dX6_add_17 rfl ?_
    refine go_iadd dX6_add_18 ?_
    refine gm_putI fd_X6_9 (Or.inl rfl) dX6_add_19 H (fun hh1 H => ?_)
    refine go_aloadn dX6_add_22 rfl ?_
    refine gm_getR fd_X6_15 dX6_add_23 H (fun x3 H => ?_)
    refine go_iloadn dX6_add_26 rfl ?_
    refine go_aloadn dX6_add_27 rfl ?_
    refine gm_getI fd_X6_34 dX6_add_28 H (fun x4 H => ?_)
    obtain ⟨x5, ex5, H⟩ := bind_some H
    refine go_callS (vs := [aA x3, aI x1, aI x4]) (stk := []) (o1 := (none, x5)) mk_X5_set ss_X6_add_39 dX6_add_31 rfl rfl (Nat.le_of_ble_eq_true rfl) (Nat.le_of_ble_eq_true rfl) (ok_X5_set ex5) (show Go M_X6_add (none, r) 34 [some (aA v0), some (aA v1), some (aI x1), none] [] x5 from ?_)
    refine go_aloadn dX6_add_34 rfl ?_
    refine gm_getR fd_X6_22 dX6_add_35 H (fun x6 H => ?_)
    refine go_iloadn dX6_add_38 rfl ?_
    refine go_aloadn dX6_add_39 rfl ?_
    refine gm_getI fd_X6_43 dX6_add_40 H (fun x7 H => ?_)
    refine go_iconst (v := (4 : Int32)) dX6_add_43 rfl ?_
    obtain ⟨x8, ex8, H⟩ := bind_some H
    refine go_callS (vs := [aI x7, aI (4 : Int32)]) (stk := [aI x1, aA x6]) (o1 := (some (aI x8), x5)) mk_J9_min_7cf53 ss_X6_add_46 dX6_add_44 rfl rfl (Nat.le_of_ble_eq_true rfl) (Nat.le_of_ble_eq_true rfl) (ok_J9_min_7cf53 ex8) (show Go M_X6_add (none, r) 47 [some (aA v0), some (aA v1), some (aI x1), none] [aI x8, aI x1, aA x6] x5 from ?_)
    obtain ⟨x9, ex9, H⟩ := bind_some H
    refine go_callS (vs := [aA x6, aI x1, aI x8]) (stk := []) (o1 := (none, x9)) mk_X5_set ss_X6_add_39 dX6_add_47 rfl rfl (Nat.le_of_ble_eq_true rfl) (Nat.le_of_ble_eq_true rfl) (ok_X5_set ex9) (show Go M_X6_add (none, r) 50 [some (aA v0), some (aA v1), some (aI x1), none] [] x9 from ?_)
    refine go_iconst (v := (0 : Int32)) dX6_add_50 rfl ?_
    refine go_istoren (loc2 := [some (aA v0), some (aA v1), some (aI x1), some (aI (0 : Int32))]) dX6_add_51 rfl (by decide) rfl ?_
    refine okl_X6_add_52 v0 v1 x1 (fun hz10 => j_X6_add_92 v0 v1 x1 hz10) (0 : Int32) x9 ?_ H
    · intro hz10 H
      exact okj_X6_add_92 v0 v1 x1 hz10  H
  · replace H := (gm_ite H).2 c1
    obtain rfl := Option.some.inj H
    exact go_return dX6_add_11 rfl
/-! X7_takeQuestion -/
def j_X7_takeQuestion_39 (v0 : Nat)  (h : Hp) : Option Hp :=
  (gfI h v0 7 4).bind fun x1 => if ¬ x1 = 0 then (some h) else (gfR h v0 7 2).bind fun x2 => (gfR h v0 7 0).bind fun x3 => (rc h x2 6 (m_X6_add x2 x3 h)).bind fun x4 => some x4
set_option maxRecDepth 20000 in
theorem okj_X7_takeQuestion_39 {r : Hp} (v0 : Nat)  (h : Hp) (H : j_X7_takeQuestion_39 v0 h = some r) : Go M_X7_takeQuestion (none, r) 39 [some (aA v0)] [] h := by
  unfold j_X7_takeQuestion_39 at H
  refine go_aloadn dX7_takeQuestion_39 rfl ?_
  refine gm_getI fd_X7_39 dX7_takeQuestion_40 H (fun x1 H => ?_)
  refine go_if_ne (tgt := 57) dX7_takeQuestion_43 (by decide) (fun c1 => ?_) (fun c1 => ?_)
  · replace H := (gm_ite H).1 c1
    obtain rfl := Option.some.inj H
    exact go_return dX7_takeQuestion_57 rfl
  · replace H := (gm_ite H).2 c1
    refine go_aloadn dX7_takeQuestion_46 rfl ?_
    refine gm_getR fd_X7_28 dX7_takeQuestion_47 H (fun x2 H => ?_)
    refine go_aloadn dX7_takeQuestion_50 rfl ?_
    refine gm_getR fd_X7_12 dX7_takeQuestion_51 H (fun x3 H => ?_)
    obtain ⟨c2, x4, ex4, H⟩ := gm_rc H
    refine go_callV (vs := [aA x3]) (stk := []) (o1 := (none, x4)) mk_X6_add sv_X7_takeQuestion_186 cl_X6 rfl dX7_takeQuestion_54 c2 rfl rfl (Nat.le_of_ble_eq_true rfl) (Nat.le_of_ble_eq_true rfl) (ok_X6_add ex4) (show Go M_X7_takeQuestion (none, r) 57 [some (aA v0)] [] x4 from ?_)
    obtain rfl := Option.some.inj H
    exact go_return dX7_takeQuestion_57 rfl
def j_X7_takeQuestion_24 (v0 : Nat)  (h : Hp) : Option Hp :=
  (gfR h v0 7 0).bind fun x1 => (gfI h x1 5 0).bind fun x2 => if ¬ x2 = 0 then j_X7_takeQuestion_39 v0 h else (rc h v0 7 (m_X7_noteTooManyWords v0 (4 : Int32) h)).bind fun x3 => j_X7_takeQuestion_39 v0 x3
set_option maxRecDepth 20000 in
theorem okj_X7_takeQuestion_24 {r : Hp} (v0 : Nat)  (h : Hp) (H : j_X7_takeQuestion_24 v0 h = some r) : Go M_X7_takeQuestion (none, r) 24 [some (aA v0)] [] h := by
  unfold j_X7_takeQuestion_24 at H
  refine go_aloadn dX7_takeQuestion_24 rfl ?_
  refine gm_getR fd_X7_12 dX7_takeQuestion_25 H (fun x1 H => ?_)
  refine gm_getI fd_X7_117 dX7_takeQuestion_28 H (fun x2 H => ?_)
  refine go_if_ne (tgt := 39) dX7_takeQuestion_31 (by decide) (fun c1 => ?_) (fun c1 => ?_)
  · replace H := (gm_ite H).1 c1
    exact okj_X7_takeQuestion_39 v0 h  H
  · replace H := (gm_ite H).2 c1
    refine go_aloadn dX7_takeQuestion_34 rfl ?_
    refine go_iconst (v := (4 : Int32)) dX7_takeQuestion_35 rfl ?_
    obtain ⟨c2, x3, ex3, H⟩ := gm_rc H
    refine go_callV (vs := [aI (4 : Int32)]) (stk := []) (o1 := (none, x3)) mk_X7_noteTooManyWords sv_X7_takeQuestion_132 cl_X7 rfl dX7_takeQuestion_36 c2 rfl rfl (Nat.le_of_ble_eq_true rfl) (Nat.le_of_ble_eq_true rfl) (ok_X7_noteTooManyWords ex3) (show Go M_X7_takeQuestion (none, r) 39 [some (aA v0)] [] x3 from ?_)
    exact okj_X7_takeQuestion_39 v0 x3  H
def m_X7_takeQuestion (v0 : Nat) (h : Hp) : Option Hp :=
  (gfR h v0 7 2).bind fun x1 => (gfI h x1 6 0).bind fun x2 => if x2 < (8 : Int32) then j_X7_takeQuestion_24 v0 h else (gfR h v0 7 0).bind fun x3 => (gfI h x3 5 1).bind fun x4 => (rc h v0 7 (m_X7_note v0 (3 : Int32) x4 h)).bind fun x5 => j_X7_takeQuestion_24 v0 x5
set_option maxRecDepth 20000 in
theorem ok_X7_takeQuestion {r : Hp} {v0 : Nat} {h : Hp} (H : m_X7_takeQuestion v0 h = some r) : Ev M_X7_takeQuestion [aA v0] h (none, r) := by
  show Go M_X7_takeQuestion (none, r) 0 [some (aA v0)] [] h
  unfold m_X7_takeQuestion at H
  refine go_aloadn dX7_takeQuestion_0 rfl ?_
  refine gm_getR fd_X7_28 dX7_takeQuestion_1 H (fun x1 H => ?_)
  refine gm_getI fd_X7_49 dX7_takeQuestion_4 H (fun x2 H => ?_)
  refine go_bipush (v := (8 : Int32)) dX7_takeQuestion_7 rfl ?_
  refine go_icmp_lt (tgt := 24) dX7_takeQuestion_9 (by decide) (fun c1 => ?_) (fun c1 => ?_)
  · replace H := (gm_ite H).1 c1
    exact okj_X7_takeQuestion_24 v0 h  H
  · replace H := (gm_ite H).2 c1
    refine go_aloadn dX7_takeQuestion_12 rfl ?_
    refine go_iconst (v := (3 : Int32)) dX7_takeQuestion_13 rfl ?_
    refine go_aloadn dX7_takeQuestion_14 rfl ?_
    refine gm_getR fd_X7_12 dX7_takeQuestion_15 H (fun x3 H => ?_)
    refine gm_getI fd_X7_129 dX7_takeQuestion_18 H (fun x4 H => ?_)
    obtain ⟨c2, x5, ex5, H⟩ := gm_rc H
    refine go_callV (vs := [aI (3 : Int32), aI x4]) (stk := []) (o1 := (none, x5)) mk_X7_note sv_X7_takeQuestion_87 cl_X7 rfl dX7_takeQuestion_21 c2 rfl rfl (Nat.le_of_ble_eq_true rfl) (Nat.le_of_ble_eq_true rfl) (ok_X7_note ex5) (show Go M_X7_takeQuestion (none, r) 24 [some (aA v0)] [] x5 from ?_)
    exact okj_X7_takeQuestion_24 v0 x5  H
/-! X3_add -/
def j_X3_add_34 (v0 : Nat) (v1 : Nat) (s0 : Nat) (s1 : Int32) (s2 : Int32) (h : Hp) : Option Hp :=
  (m_X5_set s0 s1 s2 h).bind fun x1 => (gfR x1 v0 4 1).bind fun x2 => (gfI x1 v0 4 0).bind fun x3 => (rc x1 v1 5 (m_X4_value v1 (0 : Int32) x1)).bind fun x4 => (m_X5_set x2 ((x3 * (3 : Int32)) + (1 : Int32)) x4 x1).bind fun x5 => (gfR x5 v0 4 1).bind fun x6 => (gfI x5 v0 4 0).bind fun x7 => (rc x5 v1 5 (m_X4_value v1 (1 : Int32) x5)).bind fun x8 => (m_X5_set x6 ((x7 * (3 : Int32)) + (2 : Int32)) x8 x5).bind fun x9 => (gfI x9 v0 4 0).bind fun x10 => (pfI x9 v0 4 0 (x10 + (1 : Int32))).bind fun hh1 => some hh1
set_option maxRecDepth 20000 in
theorem okj_X3_add_34 {r : Hp} (v0 : Nat) (v1 : Nat) (s0 : Nat) (s1 : Int32) (s2 : Int32) (h : Hp) (H : j_X3_add_34 v0 v1 s0 s1 s2 h = some r) : Go M_X3_add (none, r) 34 [some (aA v0), some (aA v1)] [aI s2, aI s1, aA s0] h := by
  unfold j_X3_add_34 at H
  obtain ⟨x1, ex1, H⟩ := bind_some H
  refine go_callS (vs := [aA s0, aI s1, aI s2]) (stk := []) (o1 := (none, x1)) mk_X5_set ss_X3_add_30 dX3_add_34 rfl rfl (Nat.le_of_ble_eq_true rfl) (Nat.le_of_ble_eq_true rfl) (ok_X5_set ex1) (show Go M_X3_add (none, r) 37 [some (aA v0), some (aA v1)] [] x1 from ?_)
  refine go_aloadn dX3_add_37 rfl ?_
  refine gm_getR fd_X3_15 dX3_add_38 H (fun x2 H => ?_)
  refine go_aloadn dX3_add_41 rfl ?_
  refine gm_getI fd_X3_9 dX3_add_42 H (fun x3 H => ?_)
  refine go_iconst (v := (3 : Int32)) dX3_add_45 rfl ?_
  refine go_imul dX3_add_46 ?_
  refine go_iconst (v := (1 : Int32)) dX3_add_47 rfl ?_
  refine go_iadd dX3_add_48 ?_
  refine go_aloadn dX3_add_49 rfl ?_
  refine go_iconst (v := (0 : Int32)) dX3_add_50 rfl ?_
  obtain ⟨c2, x4, ex4, H⟩ := gm_rc H
  refine go_callV (vs := [aI (0 : Int32)]) (stk := [aI ((x3 * (3 : Int32)) + (1 : Int32)), aA x2]) (o1 := (some (aI x4), x1)) mk_X4_value sv_X3_add_34 cl_X4 rfl dX3_add_51 c2 rfl rfl (Nat.le_of_ble_eq_true rfl) (Nat.le_of_ble_eq_true rfl) (ok_X4_value ex4) (show Go M_X3_add (none, r) 54 [some (aA v0), some (aA v1)] [aI x4, aI ((x3 * (3 : Int32)) + (1 : Int32)), aA x2] x1 from ?_)
  obtain ⟨x5, ex5, H⟩ := bind_some H
  refine go_callS (vs := [aA x2, aI ((x3 * (3 : Int32)) + (1 : Int32)), aI x4]) (stk := []) (o1 := (none, x5)) mk_X5_set ss_X3_add_30 dX3_add_54 rfl rfl (Nat.le_of_ble_eq_true rfl) (Nat.le_of_ble_eq_true rfl) (ok_X5_set ex5) (show Go M_X3_add (none, r) 57 [some (aA v0), some (aA v1)] [] x5 from ?_)
  refine go_aloadn dX3_add_57 rfl ?_
  refine gm_getR fd_X3_15 dX3_add_58 H (fun x6 H => ?_)
  refine go_aloadn dX3_add_61 rfl ?_
  refine gm_getI fd_X3_9 dX3_add_62 H (fun x7 H => ?_)
  refine go_iconst (v := (3 : Int32)) dX3_add_65 rfl ?_
  refine go_imul dX3_add_66 ?_
  refine go_iconst (v := (2 : Int32)) dX3_add_67 rfl ?_
  refine go_iadd dX3_add_68 ?_
  refine go_aloadn dX3_add_69 rfl ?_
  refine go_iconst (v := (1 : Int32)) dX3_add_70 rfl ?_
  obtain ⟨c4, x8, ex8, H⟩ := gm_rc H
  refine go_callV (vs := [aI (1 : Int32)]) (stk := [aI ((x7 * (3 : Int32)) + (2 : Int32)), aA x6]) (o1 := (some (aI x8), x5)) mk_X4_value sv_X3_add_34 cl_X4 rfl dX3_add_71 c4 rfl rfl (Nat.le_of_ble_eq_true rfl) (Nat.le_of_ble_eq_true rfl) (ok_X4_value ex8) (show Go M_X3_add (none, r) 74 [some (aA v0), some (aA v1)] [aI x8, aI ((x7 * (3 : Int32)) + (2 : Int32)), aA x6] x5 from ?_)
  obtain ⟨x9, ex9, H⟩ := bind_some H
  refine go_callS (vs := [aA x6, aI ((x7 * (3 : Int32)) + (2 : Int32)), aI x8]) (stk := []) (o1 := (none, x9)) mk_X5_set ss_X3_add_30 dX3_add_74 rfl rfl (Nat.le_of_ble_eq_true rfl) (Nat.le_of_ble_eq_true rfl) (ok_X5_set ex9) (show Go M_X3_add (none, r) 77 [some (aA v0), some (aA v1)] [] x9 from ?_)
  refine go_aloadn dX3_add_77 rfl ?_
  refine go_dupA dX3_add_78 ?_
  refine gm_getI fd_X3_9 dX3_add_79 H (fun x10 H => ?_)
  refine go_iconst (v := (1 : Int32)) dX3_add_82 rfl ?_
  refine go_iadd dX3_add_83 ?_
  refine gm_putI fd_X3_9 (Or.inl rfl) dX3_add_84 H (fun hh1 H => ?_)
  obtain rfl := Option.some.inj H
  exact go_return dX3_add_87 rfl
def m_X3_add (v0 : Nat) (v1 : Nat) (h : Hp) : Option Hp :=
  (gfI h v0 4 0).bind fun x1 => if x1 < (8 : Int32) then ((gfR h v0 4 1).bind fun x2 => (gfI h v0 4 0).bind fun x3 => (gfI h v1 5 0).bind fun x4 => j_X3_add_34 v0 v1 x2 (x3 * (3 : Int32)) (if ¬ x4 = (13 : Int32) then (0 : Int32) else (1 : Int32)) h) else some h
set_option maxRecDepth 20000 in
theorem ok_X3_add {r : Hp} {v0 : Nat} {v1 : Nat} {h : Hp} (H : m_X3_add v0 v1 h = some r) : Ev M_X3_add [aA v0, aA v1] h (none, r) := by
  show Go M_X3_add (none, r) 0 [some (aA v0), some (aA v1)] [] h
  unfold m_X3_add at H
  refine go_aloadn dX3_add_0 rfl ?_
  refine gm_getI fd_X3_9 dX3_add_1 H (fun x1 H => ?_)
  refine go_bipush (v := (8 : Int32)) dX3_add_4 rfl ?_
  refine go_icmp_lt (tgt := 10) dX3_add_6 (by decide) (fun c1 => ?_) (fun c1 => ?_)
  · replace H := (gm_ite H).1 c1
    refine go_aloadn dX3_add_10 rfl ?_
    refine gm_getR fd_X3_15 dX3_add_11 H (fun x2 H => ?_)
    refine go_aloadn dX3_add_14 rfl ?_
    refine gm_getI fd_X3_9 dX3_add_15 H (fun x3 H => ?_)
    refine go_iconst (v := (3 : Int32)) dX3_add_18 rfl ?_
    refine go_imul dX3_add_19 ?_
    refine go_aloadn dX3_add_20 rfl ?_
    refine gm_getI fd_X3_25 dX3_add_21 H (fun x4 H => ?_)
    refine go_bipush (v := (13 : Int32)) dX3_add_24 rfl ?_
    refine go_icmp_ne (tgt := 33) dX3_add_26 (by decide) (fun c2 => ?_) (fun c2 => ?_)
    · rw [if_pos c2] at H
      refine go_iconst (v := (0 : Int32)) dX3_add_33 rfl ?_
      exact okj_X3_add_34 v0 v1 x2 (x3 * (3 : Int32)) (0 : Int32) h  H
    · rw [if_neg c2] at H
      refine go_iconst (v := (1 : Int32)) dX3_add_29 rfl ?_
      refine go_goto (tgt := 34) dX3_add_30 (by decide) ?_
      exact okj_X3_add_34 v0 v1 x2 (x3 * (3 : Int32)) (1 : Int32) h  H
  · replace H := (gm_ite H).2 c1
    obtain rfl := Option.some.inj H
    exact go_return dX3_add_9 rfl
/-! X7_takeFact -/
def j_X7_takeFact_24 (v0 : Nat)  (h : Hp) : Option Hp :=
  (gfI h v0 7 4).bind fun x1 => if ¬ x1 = 0 then (some h) else (gfR h v0 7 3).bind fun x2 => (gfR h v0 7 0).bind fun x3 => (rc h x2 4 (m_X3_add x2 x3 h)).bind fun x4 => some x4
set_option maxRecDepth 20000 in
theorem okj_X7_takeFact_24 {r : Hp} (v0 : Nat)  (h : Hp) (H : j_X7_takeFact_24 v0 h = some r) : Go M_X7_takeFact (none, r) 24 [some (aA v0)] [] h := by
  unfold j_X7_takeFact_24 at H
  refine go_aloadn dX7_takeFact_24 rfl ?_
  refine gm_getI fd_X7_39 dX7_takeFact_25 H (fun x1 H => ?_)
  refine go_if_ne (tgt := 42) dX7_takeFact_28 (by decide) (fun c1 => ?_) (fun c1 => ?_)
  · replace H := (gm_ite H).1 c1
    obtain rfl := Option.some.inj H
    exact go_return dX7_takeFact_42 rfl
  · replace H := (gm_ite H).2 c1
    refine go_aloadn dX7_takeFact_31 rfl ?_
    refine gm_getR fd_X7_35 dX7_takeFact_32 H (fun x2 H => ?_)
    refine go_aloadn dX7_takeFact_35 rfl ?_
    refine gm_getR fd_X7_12 dX7_takeFact_36 H (fun x3 H => ?_)
    obtain ⟨c2, x4, ex4, H⟩ := gm_rc H
    refine go_callV (vs := [aA x3]) (stk := []) (o1 := (none, x4)) mk_X3_add sv_X7_takeFact_190 cl_X3 rfl dX7_takeFact_39 c2 rfl rfl (Nat.le_of_ble_eq_true rfl) (Nat.le_of_ble_eq_true rfl) (ok_X3_add ex4) (show Go M_X7_takeFact (none, r) 42 [some (aA v0)] [] x4 from ?_)
    obtain rfl := Option.some.inj H
    exact go_return dX7_takeFact_42 rfl
def m_X7_takeFact (v0 : Nat) (h : Hp) : Option Hp :=
  (gfR h v0 7 3).bind fun x1 => (gfI h x1 4 0).bind fun x2 => if x2 < (8 : Int32) then j_X7_takeFact_24 v0 h else (gfR h v0 7 0).bind fun x3 => (gfI h x3 5 1).bind fun x4 => (rc h v0 7 (m_X7_note v0 (3 : Int32) x4 h)).bind fun x5 => j_X7_takeFact_24 v0 x5
set_option maxRecDepth 20000 in
theorem ok_X7_takeFact {r : Hp} {v0 : Nat} {h : Hp} (H : m_X7_takeFact v0 h = some r) : Ev M_X7_takeFact [aA v0] h (none, r) := by
  show Go M_X7_takeFact (none, r) 0 [some (aA v0)] [] h
  unfold m_X7_takeFact at H
  refine go_aloadn dX7_takeFact_0 rfl ?_
  refine gm_getR fd_X7_35 dX7_takeFact_1 H (fun x1 H => ?_)
  refine gm_getI fd_X7_52 dX7_takeFact_4 H (fun x2 H => ?_)
  refine go_bipush (v := (8 : Int32)) dX7_takeFact_7 rfl ?_
  refine go_icmp_lt (tgt := 24) dX7_takeFact_9 (by decide) (fun c1 => ?_) (fun c1 => ?_)
  · replace H := (gm_ite H).1 c1
    exact okj_X7_takeFact_24 v0 h  H
  · replace H := (gm_ite H).2 c1
    refine go_aloadn dX7_takeFact_12 rfl ?_
    refine go_iconst (v := (3 : Int32)) dX7_takeFact_13 rfl ?_
    refine go_aloadn dX7_takeFact_14 rfl ?_
    refine gm_getR fd_X7_12 dX7_takeFact_15 H (fun x3 H => ?_)
    refine gm_getI fd_X7_129 dX7_takeFact_18 H (fun x4 H => ?_)
    obtain ⟨c2, x5, ex5, H⟩ := gm_rc H
    refine go_callV (vs := [aI (3 : Int32), aI x4]) (stk := []) (o1 := (none, x5)) mk_X7_note sv_X7_takeFact_87 cl_X7 rfl dX7_takeFact_21 c2 rfl rfl (Nat.le_of_ble_eq_true rfl) (Nat.le_of_ble_eq_true rfl) (ok_X7_note ex5) (show Go M_X7_takeFact (none, r) 24 [some (aA v0)] [] x5 from ?_)
    exact okj_X7_takeFact_24 v0 x5  H
/-! X0_wordAt -/
def m_X0_wordAt (v0 : Nat) (v1 : Int32) (h : Hp) : Option Int32 :=
  (gfR h v0 1 10).bind fun x1 => (m_X5_at x1 v1 h).bind fun x2 => some x2
set_option maxRecDepth 20000 in
theorem ok_X0_wordAt {r : Int32} {v0 : Nat} {v1 : Int32} {h : Hp} (H : m_X0_wordAt v0 v1 h = some r) : Ev M_X0_wordAt [aA v0, aI v1] h (some (aI r), h) := by
  show Go M_X0_wordAt (some (aI r), h) 0 [some (aA v0), some (aI v1)] [] h
  unfold m_X0_wordAt at H
  refine go_aloadn dX0_wordAt_0 rfl ?_
  refine gm_getR fd_X0_43 dX0_wordAt_1 H (fun x1 H => ?_)
  refine go_iloadn dX0_wordAt_4 rfl ?_
  obtain ⟨x2, ex2, H⟩ := bind_some H
  refine go_callS (vs := [aA x1, aI v1]) (stk := []) (o1 := (some (aI x2), h)) mk_X5_at ss_X0_wordAt_87 dX0_wordAt_5 rfl rfl (Nat.le_of_ble_eq_true rfl) (Nat.le_of_ble_eq_true rfl) (ok_X5_at ex2) (show Go M_X0_wordAt (some (aI r), h) 8 [some (aA v0), some (aI v1)] [aI x2] h from ?_)
  obtain rfl := Option.some.inj H
  exact go_ireturn dX0_wordAt_8 (tyI_int rfl)
/-! X0_placeOfWord -/
def b_X0_placeOfWord_2 (v0 : Nat) (v1 : Int32) (h : Hp) (k : Int32 → Option Int32) (v2 : Int32) : Option Int32 :=
  (gfI h v0 1 2).bind fun x1 => if x1 ≤ v2 then (some v2) else (rc h v0 1 (m_X0_wordAt v0 v2 h)).bind fun x2 => if v1 ≤ x2 then (some v2) else k (v2 + (1 : Int32))
set_option maxRecDepth 20000 in
theorem okb_X0_placeOfWord_2 {r : Int32} (v0 : Nat) (v1 : Int32) (h : Hp) (k : Int32 → Option Int32) (v2 : Int32) (Hk : ∀ (v2q : Int32), k v2q = some r → Go M_X0_placeOfWord (some (aI r), h) 2 [some (aA v0), some (aI v1), some (aI v2q)] [] h) (H : b_X0_placeOfWord_2 v0 v1 h k v2 = some r) : Go M_X0_placeOfWord (some (aI r), h) 2 [some (aA v0), some (aI v1), some (aI v2)] [] h := by
  unfold b_X0_placeOfWord_2 at H
  refine go_iloadn dX0_placeOfWord_2 rfl ?_
  refine go_aloadn dX0_placeOfWord_3 rfl ?_
  refine gm_getI fd_X0_18 dX0_placeOfWord_4 H (fun x1 H => ?_)
  refine go_icmp_ge (tgt := 25) dX0_placeOfWord_7 (by decide) (fun c1 => ?_) (fun c1 => ?_)
  · replace H := (gm_ite H).1 c1
    refine go_iloadn dX0_placeOfWord_25 rfl ?_
    obtain rfl := Option.some.inj H
    exact go_ireturn dX0_placeOfWord_26 (tyI_int rfl)
  · replace H := (gm_ite H).2 c1
    refine go_aloadn dX0_placeOfWord_10 rfl ?_
    refine go_iloadn dX0_placeOfWord_11 rfl ?_
    obtain ⟨c2, x2, ex2, H⟩ := gm_rc H
    refine go_callV (vs := [aI v2]) (stk := []) (o1 := (some (aI x2), h)) mk_X0_wordAt sv_X0_placeOfWord_130 cl_X0 rfl dX0_placeOfWord_12 c2 rfl rfl (Nat.le_of_ble_eq_true rfl) (Nat.le_of_ble_eq_true rfl) (ok_X0_wordAt ex2) (show Go M_X0_placeOfWord (some (aI r), h) 15 [some (aA v0), some (aI v1), some (aI v2)] [aI x2] h from ?_)
    refine go_iloadn dX0_placeOfWord_15 rfl ?_
    refine go_icmp_ge (tgt := 25) dX0_placeOfWord_16 (by decide) (fun c3 => ?_) (fun c3 => ?_)
    · replace H := (gm_ite H).1 c3
      refine go_iloadn dX0_placeOfWord_25 rfl ?_
      obtain rfl := Option.some.inj H
      exact go_ireturn dX0_placeOfWord_26 (tyI_int rfl)
    · replace H := (gm_ite H).2 c3
      refine go_iinc (v := (v2 + (1 : Int32))) (loc2 := [some (aA v0), some (aI v1), some (aI (v2 + (1 : Int32)))]) dX0_placeOfWord_19 rfl rfl (by decide) rfl ?_
      refine go_goto (tgt := 2) dX0_placeOfWord_22 (by decide) ?_
      exact Hk (v2 + (1 : Int32)) H
def l_X0_placeOfWord_2 (v0 : Nat) (v1 : Int32) (h : Hp) (v2 : Int32) : Option Int32 := loopK FUEL (fun (k : Int32 → Option Int32) (s : Int32) => b_X0_placeOfWord_2 v0 v1 h (fun v2q => k v2q) s) v2
theorem okl_X0_placeOfWord_2 {r : Int32} (v0 : Nat) (v1 : Int32) (h : Hp) (v2 : Int32) (H : l_X0_placeOfWord_2 v0 v1 h v2 = some r) : Go M_X0_placeOfWord (some (aI r), h) 2 [some (aA v0), some (aI v1), some (aI v2)] [] h := by
  unfold l_X0_placeOfWord_2 at H
  exact go_loop (σ := Int32) (body := (fun (k : Int32 → Option Int32) (s : Int32) => b_X0_placeOfWord_2 v0 v1 h (fun v2q => k v2q) s)) (fun s => [some (aA v0), some (aI v1), some (aI s)]) (fun s => h) (fun k s Hk H => okb_X0_placeOfWord_2 v0 v1 h (fun v2q => k v2q) s  (fun v2q H => Hk v2q H) H) FUEL v2 H
def m_X0_placeOfWord (v0 : Nat) (v1 : Int32) (h : Hp) : Option Int32 :=
  l_X0_placeOfWord_2 v0 v1 h (0 : Int32)
set_option maxRecDepth 20000 in
theorem ok_X0_placeOfWord {r : Int32} {v0 : Nat} {v1 : Int32} {h : Hp} (H : m_X0_placeOfWord v0 v1 h = some r) : Ev M_X0_placeOfWord [aA v0, aI v1] h (some (aI r), h) := by
  show Go M_X0_placeOfWord (some (aI r), h) 0 [some (aA v0), some (aI v1), none] [] h
  unfold m_X0_placeOfWord at H
  refine go_iconst (v := (0 : Int32)) dX0_placeOfWord_0 rfl ?_
  refine go_istoren (loc2 := [some (aA v0), some (aI v1), some (aI (0 : Int32))]) dX0_placeOfWord_1 rfl (by decide) rfl ?_
  exact okl_X0_placeOfWord_2 v0 v1 h (0 : Int32) H
/-! X0_openWord -/
def b_X0_openWord_28 (v0 : Nat) (v1 : Int32) (v2 : Int32) (K67 : Hp → Option Hp) (k : Int32 → Hp → Option Hp) (v3 : Int32) (h : Hp) : Option Hp :=
  if v3 ≤ v1 then K67 h else (gfR h v0 1 10).bind fun x1 => (gfR h v0 1 10).bind fun x2 => (alI h x2 (v3 - (1 : Int32))).bind fun x3 => (asI h x1 v3 x3).bind fun hh1 => (gfR hh1 v0 1 11).bind fun x4 => (gfR hh1 v0 1 11).bind fun x5 => (alJ hh1 x5 (v3 - (1 : Int32))).bind fun x6 => (asJ hh1 x4 v3 x6).bind fun hh2 => k (v3 + (-1 : Int32)) hh2
set_option maxRecDepth 20000 in
theorem okb_X0_openWord_28 {r : Hp} (v0 : Nat) (v1 : Int32) (v2 : Int32) (K67 : Hp → Option Hp) (k : Int32 → Hp → Option Hp) (v3 : Int32) (h : Hp) (HK67 : ∀   (hq : Hp), K67 hq = some r → Go M_X0_openWord (none, r) 67 [some (aA v0), some (aI v1), some (aI v2), none] [] hq) (Hk : ∀ (v3q : Int32) (hq : Hp), k v3q hq = some r → Go M_X0_openWord (none, r) 28 [some (aA v0), some (aI v1), some (aI v2), some (aI v3q)] [] hq) (H : b_X0_openWord_28 v0 v1 v2 K67 k v3 h = some r) : Go M_X0_openWord (none, r) 28 [some (aA v0), some (aI v1), some (aI v2), some (aI v3)] [] h := by
  unfold b_X0_openWord_28 at H
  refine go_iloadn dX0_openWord_28 rfl ?_
  refine go_iloadn dX0_openWord_29 rfl ?_
  refine go_icmp_le (tgt := 67) dX0_openWord_30 (by decide) (fun c1 => ?_) (fun c1 => ?_)
  · replace H := (gm_ite H).1 c1
    refine go_mask [true, true, true, false] (loc' := [some (aA v0), some (aI v1), some (aI v2), none]) rfl ?_
    exact HK67 h H
  · replace H := (gm_ite H).2 c1
    refine go_aloadn dX0_openWord_33 rfl ?_
    refine gm_getR fd_X0_43 dX0_openWord_34 H (fun x1 H => ?_)
    refine go_iloadn dX0_openWord_37 rfl ?_
    refine go_aloadn dX0_openWord_38 rfl ?_
    refine gm_getR fd_X0_43 dX0_openWord_39 H (fun x2 H => ?_)
    refine go_iloadn dX0_openWord_42 rfl ?_
    refine go_iconst (v := (1 : Int32)) dX0_openWord_43 rfl ?_
    refine go_isub dX0_openWord_44 ?_
    refine gm_iald dX0_openWord_45 H (fun x3 H => ?_)
    refine gm_iast dX0_openWord_46 H (fun hh1 H => ?_)
    refine go_aloadn dX0_openWord_47 rfl ?_
    refine gm_getR fd_X0_46 dX0_openWord_48 H (fun x4 H => ?_)
    refine go_iloadn dX0_openWord_51 rfl ?_
    refine go_aloadn dX0_openWord_52 rfl ?_
    refine gm_getR fd_X0_46 dX0_openWord_53 H (fun x5 H => ?_)
    refine go_iloadn dX0_openWord_56 rfl ?_
    refine go_iconst (v := (1 : Int32)) dX0_openWord_57 rfl ?_
    refine go_isub dX0_openWord_58 ?_
    refine gm_lald dX0_openWord_59 H (fun x6 H => ?_)
    refine gm_last dX0_openWord_60 H (fun hh2 H => ?_)
    refine go_iinc (v := (v3 + (-1 : Int32))) (loc2 := [some (aA v0), some (aI v1), some (aI v2), some (aI (v3 + (-1 : Int32)))]) dX0_openWord_61 rfl rfl (by decide) rfl ?_
    refine go_goto (tgt := 28) dX0_openWord_64 (by decide) ?_
    exact Hk (v3 + (-1 : Int32)) hh2 H
def l_X0_openWord_28 (v0 : Nat) (v1 : Int32) (v2 : Int32) (K67 : Hp → Option Hp) (v3 : Int32) (h : Hp) : Option Hp := loopK FUEL (fun (k : Int32 × Hp → Option Hp) (s : Int32 × Hp) => b_X0_openWord_28 v0 v1 v2 K67 (fun v3q hq => k (v3q, hq)) s.1 s.2) (v3, h)
theorem okl_X0_openWord_28 {r : Hp} (v0 : Nat) (v1 : Int32) (v2 : Int32) (K67 : Hp → Option Hp) (v3 : Int32) (h : Hp) (HK67 : ∀   (hq : Hp), K67 hq = some r → Go M_X0_openWord (none, r) 67 [some (aA v0), some (aI v1), some (aI v2), none] [] hq) (H : l_X0_openWord_28 v0 v1 v2 K67 v3 h = some r) : Go M_X0_openWord (none, r) 28 [some (aA v0), some (aI v1), some (aI v2), some (aI v3)] [] h := by
  unfold l_X0_openWord_28 at H
  exact go_loop (σ := Int32 × Hp) (body := (fun (k : Int32 × Hp → Option Hp) (s : Int32 × Hp) => b_X0_openWord_28 v0 v1 v2 K67 (fun v3q hq => k (v3q, hq)) s.1 s.2)) (fun s => [some (aA v0), some (aI v1), some (aI v2), some (aI s.1)]) (fun s => s.2) (fun k s Hk H => okb_X0_openWord_28 v0 v1 v2 K67 (fun v3q hq => k (v3q, hq)) s.1 s.2 HK67 (fun v3q hq H => Hk (v3q, hq) H) H) FUEL (v3, h) H
def j_X0_openWord_67 (v0 : Nat) (v1 : Int32) (v2 : Int32)  (h : Hp) : Option Hp :=
  (gfR h v0 1 10).bind fun x1 => (asI h x1 v1 v2).bind fun hh1 => (gfR hh1 v0 1 11).bind fun x2 => (asJ hh1 x2 v1 (0 : Int64)).bind fun hh2 => (gfI hh2 v0 1 2).bind fun x3 => (pfI hh2 v0 1 2 (x3 + (1 : Int32))).bind fun hh3 => some hh3
set_option maxRecDepth 20000 in
theorem okj_X0_openWord_67 {r : Hp} (v0 : Nat) (v1 : Int32) (v2 : Int32)  (h : Hp) (H : j_X0_openWord_67 v0 v1 v2 h = some r) : Go M_X0_openWord (none, r) 67 [some (aA v0), some (aI v1), some (aI v2), none] [] h := by
  unfold j_X0_openWord_67 at H
  refine go_aloadn dX0_openWord_67 rfl ?_
  refine gm_getR fd_X0_43 dX0_openWord_68 H (fun x1 H => ?_)
  refine go_iloadn dX0_openWord_71 rfl ?_
  refine go_iloadn dX0_openWord_72 rfl ?_
  refine gm_iast dX0_openWord_73 H (fun hh1 H => ?_)
  refine go_aloadn dX0_openWord_74 rfl ?_
  refine gm_getR fd_X0_46 dX0_openWord_75 H (fun x2 H => ?_)
  refine go_iloadn dX0_openWord_78 rfl ?_
  refine go_lconst (v := (0 : Int64)) dX0_openWord_79 rfl ?_
  refine gm_last dX0_openWord_80 H (fun hh2 H => ?_)
  refine go_aloadn dX0_openWord_81 rfl ?_
  refine go_dupA dX0_openWord_82 ?_
  refine gm_getI fd_X0_18 dX0_openWord_83 H (fun x3 H => ?_)
  refine go_iconst (v := (1 : Int32)) dX0_openWord_86 rfl ?_
  refine go_iadd dX0_openWord_87 ?_
  refine gm_putI fd_X0_18 (Or.inl rfl) dX0_openWord_88 H (fun hh3 H => ?_)
  obtain rfl := Option.some.inj H
  exact go_return dX0_openWord_91 rfl
def m_X0_openWord (v0 : Nat) (v1 : Int32) (v2 : Int32) (h : Hp) : Option Hp :=
  if v1 < 0 then (some h) else (gfI h v0 1 2).bind fun x1 => if x1 < v1 then (some h) else (gfI h v0 1 2).bind fun x2 => if x2 < (340 : Int32) then ((gfI h v0 1 2).bind fun x3 => l_X0_openWord_28 v0 v1 v2 (fun hz4 => j_X0_openWord_67 v0 v1 v2 hz4) x3 h) else some h
set_option maxRecDepth 20000 in
theorem ok_X0_openWord {r : Hp} {v0 : Nat} {v1 : Int32} {v2 : Int32} {h : Hp} (H : m_X0_openWord v0 v1 v2 h = some r) : Ev M_X0_openWord [aA v0, aI v1, aI v2] h (none, r) := by
  show Go M_X0_openWord (none, r) 0 [some (aA v0), some (aI v1), some (aI v2), none] [] h
  unfold m_X0_openWord at H
  refine go_iloadn dX0_openWord_0 rfl ?_
  refine go_if_lt (tgt := 22) dX0_openWord_1 (by decide) (fun c1 => ?_) (fun c1 => ?_)
  · replace H := (gm_ite H).1 c1
    obtain rfl := Option.some.inj H
    exact go_return dX0_openWord_22 rfl
  · replace H := (gm_ite H).2 c1
    refine go_iloadn dX0_openWord_4 rfl ?_
    refine go_aloadn dX0_openWord_5 rfl ?_
    refine gm_getI fd_X0_18 dX0_openWord_6 H (fun x1 H => ?_)
    refine go_icmp_gt (tgt := 22) dX0_openWord_9 (by decide) (fun c2 => ?_) (fun c2 => ?_)
    · replace H := (gm_ite H).1 c2
      obtain rfl := Option.some.inj H
      exact go_return dX0_openWord_22 rfl
    · replace H := (gm_ite H).2 c2
      refine go_aloadn dX0_openWord_12 rfl ?_
      refine gm_getI fd_X0_18 dX0_openWord_13 H (fun x2 H => ?_)
      refine go_sipush (v := (340 : Int32)) dX0_openWord_16 rfl ?_
      refine go_icmp_lt (tgt := 23) dX0_openWord_19 (by decide) (fun c3 => ?_) (fun c3 => ?_)
      · replace H := (gm_ite H).1 c3
        refine go_aloadn dX0_openWord_23 rfl ?_
        refine gm_getI fd_X0_18 dX0_openWord_24 H (fun x3 H => ?_)
        refine go_istoren (loc2 := [some (aA v0), some (aI v1), some (aI v2), some (aI x3)]) dX0_openWord_27 rfl (by decide) rfl ?_
        refine okl_X0_openWord_28 v0 v1 v2 (fun hz4 => j_X0_openWord_67 v0 v1 v2 hz4) x3 h ?_ H
        · intro hz4 H
          exact okj_X0_openWord_67 v0 v1 v2 hz4  H
      · replace H := (gm_ite H).2 c3
        obtain rfl := Option.some.inj H
        exact go_return dX0_openWord_22 rfl
/-! X0_stayOf -/
def m_X0_stayOf (v0 : Nat) (v1 : Int32) (h : Hp) : Option Int32 :=
  (gfR h v0 1 9).bind fun x1 => (m_X5_at x1 v1 h).bind fun x2 => some x2
set_option maxRecDepth 20000 in
theorem ok_X0_stayOf {r : Int32} {v0 : Nat} {v1 : Int32} {h : Hp} (H : m_X0_stayOf v0 v1 h = some r) : Ev M_X0_stayOf [aA v0, aI v1] h (some (aI r), h) := by
  show Go M_X0_stayOf (some (aI r), h) 0 [some (aA v0), some (aI v1)] [] h
  unfold m_X0_stayOf at H
  refine go_aloadn dX0_stayOf_0 rfl ?_
  refine gm_getR fd_X0_40 dX0_stayOf_1 H (fun x1 H => ?_)
  refine go_iloadn dX0_stayOf_4 rfl ?_
  obtain ⟨x2, ex2, H⟩ := bind_some H
  refine go_callS (vs := [aA x1, aI v1]) (stk := []) (o1 := (some (aI x2), h)) mk_X5_at ss_X0_stayOf_87 dX0_stayOf_5 rfl rfl (Nat.le_of_ble_eq_true rfl) (Nat.le_of_ble_eq_true rfl) (ok_X5_at ex2) (show Go M_X0_stayOf (some (aI r), h) 8 [some (aA v0), some (aI v1)] [aI x2] h from ?_)
  obtain rfl := Option.some.inj H
  exact go_ireturn dX0_stayOf_8 (tyI_int rfl)
/-! X0_ownerOf -/
def m_X0_ownerOf (v0 : Nat) (v1 : Int32) (h : Hp) : Option Int32 :=
  (gfR h v0 1 8).bind fun x1 => (m_X5_at x1 v1 h).bind fun x2 => some x2
set_option maxRecDepth 20000 in
theorem ok_X0_ownerOf {r : Int32} {v0 : Nat} {v1 : Int32} {h : Hp} (H : m_X0_ownerOf v0 v1 h = some r) : Ev M_X0_ownerOf [aA v0, aI v1] h (some (aI r), h) := by
  show Go M_X0_ownerOf (some (aI r), h) 0 [some (aA v0), some (aI v1)] [] h
  unfold m_X0_ownerOf at H
  refine go_aloadn dX0_ownerOf_0 rfl ?_
  refine gm_getR fd_X0_37 dX0_ownerOf_1 H (fun x1 H => ?_)
  refine go_iloadn dX0_ownerOf_4 rfl ?_
  obtain ⟨x2, ex2, H⟩ := bind_some H
  refine go_callS (vs := [aA x1, aI v1]) (stk := []) (o1 := (some (aI x2), h)) mk_X5_at ss_X0_ownerOf_87 dX0_ownerOf_5 rfl rfl (Nat.le_of_ble_eq_true rfl) (Nat.le_of_ble_eq_true rfl) (ok_X5_at ex2) (show Go M_X0_ownerOf (some (aI r), h) 8 [some (aA v0), some (aI v1)] [aI x2] h from ?_)
  obtain rfl := Option.some.inj H
  exact go_ireturn dX0_ownerOf_8 (tyI_int rfl)
/-! X0_listWords -/
def j_X0_listWords_87 (v0 : Nat) (v1 : Int32)  (h : Hp) (k : Int32 → Hp → Option Hp) : Option Hp :=
  k (v1 + (1 : Int32)) h
set_option maxRecDepth 20000 in
theorem okj_X0_listWords_87 {r : Hp} (v0 : Nat) (v1 : Int32)  (h : Hp) (k : Int32 → Hp → Option Hp) (Hk : ∀ (v1q : Int32) (hq : Hp), k v1q hq = some r → Go M_X0_listWords (none, r) 7 [some (aA v0), some (aI v1q), none, none] [] hq) (H : j_X0_listWords_87 v0 v1 h k = some r) : Go M_X0_listWords (none, r) 87 [some (aA v0), some (aI v1), none, none] [] h := by
  unfold j_X0_listWords_87 at H
  refine go_iinc (v := (v1 + (1 : Int32))) (loc2 := [some (aA v0), some (aI (v1 + (1 : Int32))), none, none]) dX0_listWords_87 rfl rfl (by decide) rfl ?_
  refine go_goto (tgt := 7) dX0_listWords_90 (by decide) ?_
  exact Hk (v1 + (1 : Int32)) h H
def j_X0_listWords_53 (v0 : Nat) (v1 : Int32) (v3 : Int32)  (h : Hp) (k : Int32 → Hp → Option Hp) : Option Hp :=
  (gfR h v0 1 11).bind fun x1 => (alen h x1 22).bind fun x2 => if x2 ≤ v3 then j_X0_listWords_87 v0 v1 h k else (gfR h v0 1 11).bind fun x3 => (alJ h x3 v3).bind fun x4 => (rc h v0 1 (m_X0_stayOf v0 v1 h)).bind fun x5 => (rc h v0 1 (m_X0_ownerOf v0 v1 h)).bind fun x6 => (m_X0_slotOf x6 (0 : Int32) h).bind fun x7 => (asJ h x3 v3 (x4 ||| (lshlF (Int32.toInt64 x5) x7))).bind fun hh1 => j_X0_listWords_87 v0 v1 hh1 k
set_option maxRecDepth 20000 in
theorem okj_X0_listWords_53 {r : Hp} (v0 : Nat) (v1 : Int32) (v3 : Int32)  (h : Hp) (k : Int32 → Hp → Option Hp) (Hk : ∀ (v1q : Int32) (hq : Hp), k v1q hq = some r → Go M_X0_listWords (none, r) 7 [some (aA v0), some (aI v1q), none, none] [] hq) (H : j_X0_listWords_53 v0 v1 v3 h k = some r) : Go M_X0_listWords (none, r) 53 [some (aA v0), some (aI v1), none, some (aI v3)] [] h := by
  unfold j_X0_listWords_53 at H
  refine go_iloadn dX0_listWords_53 rfl ?_
  refine go_aloadn dX0_listWords_54 rfl ?_
  refine gm_getR fd_X0_46 dX0_listWords_55 H (fun x1 H => ?_)
  refine gm_alen (by decide) dX0_listWords_58 H (fun x2 H => ?_)
  refine go_icmp_ge (tgt := 87) dX0_listWords_59 (by decide) (fun c1 => ?_) (fun c1 => ?_)
  · replace H := (gm_ite H).1 c1
    refine go_mask [true, true, false, false] (loc' := [some (aA v0), some (aI v1), none, none]) rfl ?_
    exact okj_X0_listWords_87 v0 v1 h k Hk H
  · replace H := (gm_ite H).2 c1
    refine go_aloadn dX0_listWords_62 rfl ?_
    refine gm_getR fd_X0_46 dX0_listWords_63 H (fun x3 H => ?_)
    refine go_iloadn dX0_listWords_66 rfl ?_
    refine go_dup2IA dX0_listWords_67 ?_
    refine gm_lald dX0_listWords_68 H (fun x4 H => ?_)
    refine go_aloadn dX0_listWords_69 rfl ?_
    refine go_iloadn dX0_listWords_70 rfl ?_
    obtain ⟨c2, x5, ex5, H⟩ := gm_rc H
    refine go_callV (vs := [aI v1]) (stk := [aL x4, aI v3, aA x3]) (o1 := (some (aI x5), h)) mk_X0_stayOf sv_X0_listWords_137 cl_X0 rfl dX0_listWords_71 c2 rfl rfl (Nat.le_of_ble_eq_true rfl) (Nat.le_of_ble_eq_true rfl) (ok_X0_stayOf ex5) (show Go M_X0_listWords (none, r) 74 [some (aA v0), some (aI v1), none, some (aI v3)] [aI x5, aL x4, aI v3, aA x3] h from ?_)
    refine go_i2l dX0_listWords_74 ?_
    refine go_aloadn dX0_listWords_75 rfl ?_
    refine go_iloadn dX0_listWords_76 rfl ?_
    obtain ⟨c3, x6, ex6, H⟩ := gm_rc H
    refine go_callV (vs := [aI v1]) (stk := [aL (Int32.toInt64 x5), aL x4, aI v3, aA x3]) (o1 := (some (aI x6), h)) mk_X0_ownerOf sv_X0_listWords_105 cl_X0 rfl dX0_listWords_77 c3 rfl rfl (Nat.le_of_ble_eq_true rfl) (Nat.le_of_ble_eq_true rfl) (ok_X0_ownerOf ex6) (show Go M_X0_listWords (none, r) 80 [some (aA v0), some (aI v1), none, some (aI v3)] [aI x6, aL (Int32.toInt64 x5), aL x4, aI v3, aA x3] h from ?_)
    refine go_iconst (v := (0 : Int32)) dX0_listWords_80 rfl ?_
    obtain ⟨x7, ex7, H⟩ := bind_some H
    refine go_callS (vs := [aI x6, aI (0 : Int32)]) (stk := [aL (Int32.toInt64 x5), aL x4, aI v3, aA x3]) (o1 := (some (aI x7), h)) mk_X0_slotOf ss_X0_listWords_91 dX0_listWords_81 rfl rfl (Nat.le_of_ble_eq_true rfl) (Nat.le_of_ble_eq_true rfl) (ok_X0_slotOf ex7) (show Go M_X0_listWords (none, r) 84 [some (aA v0), some (aI v1), none, some (aI v3)] [aI x7, aL (Int32.toInt64 x5), aL x4, aI v3, aA x3] h from ?_)
    refine go_lshl dX0_listWords_84 ?_
    refine go_lor dX0_listWords_85 ?_
    refine gm_last dX0_listWords_86 H (fun hh1 H => ?_)
    refine go_mask [true, true, false, false] (loc' := [some (aA v0), some (aI v1), none, none]) rfl ?_
    exact okj_X0_listWords_87 v0 v1 hh1 k Hk H
def j_X0_listWords_47 (v0 : Nat) (v1 : Int32) (v2 : Int32) (v3 : Int32)  (h : Hp) (k : Int32 → Hp → Option Hp) : Option Hp :=
  (rc h v0 1 (m_X0_openWord v0 v3 v2 h)).bind fun x1 => j_X0_listWords_53 v0 v1 v3 x1 k
set_option maxRecDepth 20000 in
theorem okj_X0_listWords_47 {r : Hp} (v0 : Nat) (v1 : Int32) (v2 : Int32) (v3 : Int32)  (h : Hp) (k : Int32 → Hp → Option Hp) (Hk : ∀ (v1q : Int32) (hq : Hp), k v1q hq = some r → Go M_X0_listWords (none, r) 7 [some (aA v0), some (aI v1q), none, none] [] hq) (H : j_X0_listWords_47 v0 v1 v2 v3 h k = some r) : Go M_X0_listWords (none, r) 47 [some (aA v0), some (aI v1), some (aI v2), some (aI v3)] [] h := by
  unfold j_X0_listWords_47 at H
  refine go_aloadn dX0_listWords_47 rfl ?_
  refine go_iloadn dX0_listWords_48 rfl ?_
  refine go_iloadn dX0_listWords_49 rfl ?_
  obtain ⟨c1, x1, ex1, H⟩ := gm_rc H
  refine go_callV (vs := [aI v3, aI v2]) (stk := []) (o1 := (none, x1)) mk_X0_openWord sv_X0_listWords_133 cl_X0 rfl dX0_listWords_50 c1 rfl rfl (Nat.le_of_ble_eq_true rfl) (Nat.le_of_ble_eq_true rfl) (ok_X0_openWord ex1) (show Go M_X0_listWords (none, r) 53 [some (aA v0), some (aI v1), some (aI v2), some (aI v3)] [] x1 from ?_)
  refine go_mask [true, true, false, true] (loc' := [some (aA v0), some (aI v1), none, some (aI v3)]) rfl ?_
  exact okj_X0_listWords_53 v0 v1 v3 x1 k Hk H
def b_X0_listWords_7 (v0 : Nat) (k : Int32 → Hp → Option Hp) (v1 : Int32) (h : Hp) : Option Hp :=
  (gfI h v0 1 1).bind fun x1 => if x1 ≤ v1 then (some h) else (gfR h v0 1 7).bind fun x2 => (m_X5_at x2 v1 h).bind fun x3 => (rc h v0 1 (m_X0_placeOfWord v0 x3 h)).bind fun x4 => (gfI h v0 1 2).bind fun x5 => if x5 ≤ x4 then j_X0_listWords_47 v0 v1 x3 x4 h k else (rc h v0 1 (m_X0_wordAt v0 x4 h)).bind fun x6 => if x6 = x3 then j_X0_listWords_53 v0 v1 x4 h k else j_X0_listWords_47 v0 v1 x3 x4 h k
set_option maxRecDepth 20000 in
theorem okb_X0_listWords_7 {r : Hp} (v0 : Nat) (k : Int32 → Hp → Option Hp) (v1 : Int32) (h : Hp) (Hk : ∀ (v1q : Int32) (hq : Hp), k v1q hq = some r → Go M_X0_listWords (none, r) 7 [some (aA v0), some (aI v1q), none, none] [] hq) (H : b_X0_listWords_7 v0 k v1 h = some r) : Go M_X0_listWords (none, r) 7 [some (aA v0), some (aI v1), none, none] [] h := by
  unfold b_X0_listWords_7 at H
  refine go_iloadn dX0_listWords_7 rfl ?_
  refine go_aloadn dX0_listWords_8 rfl ?_
  refine gm_getI fd_X0_15 dX0_listWords_9 H (fun x1 H => ?_)
  refine go_icmp_ge (tgt := 93) dX0_listWords_12 (by decide) (fun c1 => ?_) (fun c1 => ?_)
  · replace H := (gm_ite H).1 c1
    obtain rfl := Option.some.inj H
    exact go_return dX0_listWords_93 rfl
  · replace H := (gm_ite H).2 c1
    refine go_aloadn dX0_listWords_15 rfl ?_
    refine gm_getR fd_X0_34 dX0_listWords_16 H (fun x2 H => ?_)
    refine go_iloadn dX0_listWords_19 rfl ?_
    obtain ⟨x3, ex3, H⟩ := bind_some H
    refine go_callS (vs := [aA x2, aI v1]) (stk := []) (o1 := (some (aI x3), h)) mk_X5_at ss_X0_listWords_87 dX0_listWords_20 rfl rfl (Nat.le_of_ble_eq_true rfl) (Nat.le_of_ble_eq_true rfl) (ok_X5_at ex3) (show Go M_X0_listWords (none, r) 23 [some (aA v0), some (aI v1), none, none] [aI x3] h from ?_)
    refine go_istoren (loc2 := [some (aA v0), some (aI v1), some (aI x3), none]) dX0_listWords_23 rfl (by decide) rfl ?_
    refine go_aloadn dX0_listWords_24 rfl ?_
    refine go_iloadn dX0_listWords_25 rfl ?_
    obtain ⟨c3, x4, ex4, H⟩ := gm_rc H
    refine go_callV (vs := [aI x3]) (stk := []) (o1 := (some (aI x4), h)) mk_X0_placeOfWord sv_X0_listWords_127 cl_X0 rfl dX0_listWords_26 c3 rfl rfl (Nat.le_of_ble_eq_true rfl) (Nat.le_of_ble_eq_true rfl) (ok_X0_placeOfWord ex4) (show Go M_X0_listWords (none, r) 29 [some (aA v0), some (aI v1), some (aI x3), none] [aI x4] h from ?_)
    refine go_istoren (loc2 := [some (aA v0), some (aI v1), some (aI x3), some (aI x4)]) dX0_listWords_29 rfl (by decide) rfl ?_
    refine go_iloadn dX0_listWords_30 rfl ?_
    refine go_aloadn dX0_listWords_31 rfl ?_
    refine gm_getI fd_X0_18 dX0_listWords_32 H (fun x5 H => ?_)
    refine go_icmp_ge (tgt := 47) dX0_listWords_35 (by decide) (fun c4 => ?_) (fun c4 => ?_)
    · replace H := (gm_ite H).1 c4
      exact okj_X0_listWords_47 v0 v1 x3 x4 h k Hk H
    · replace H := (gm_ite H).2 c4
      refine go_aloadn dX0_listWords_38 rfl ?_
      refine go_iloadn dX0_listWords_39 rfl ?_
      obtain ⟨c5, x6, ex6, H⟩ := gm_rc H
      refine go_callV (vs := [aI x4]) (stk := []) (o1 := (some (aI x6), h)) mk_X0_wordAt sv_X0_listWords_130 cl_X0 rfl dX0_listWords_40 c5 rfl rfl (Nat.le_of_ble_eq_true rfl) (Nat.le_of_ble_eq_true rfl) (ok_X0_wordAt ex6) (show Go M_X0_listWords (none, r) 43 [some (aA v0), some (aI v1), some (aI x3), some (aI x4)] [aI x6] h from ?_)
      refine go_iloadn dX0_listWords_43 rfl ?_
      refine go_icmp_eq (tgt := 53) dX0_listWords_44 (by decide) (fun c6 => ?_) (fun c6 => ?_)
      · replace H := (gm_ite H).1 c6
        refine go_mask [true, true, false, true] (loc' := [some (aA v0), some (aI v1), none, some (aI x4)]) rfl ?_
        exact okj_X0_listWords_53 v0 v1 x4 h k Hk H
      · replace H := (gm_ite H).2 c6
        exact okj_X0_listWords_47 v0 v1 x3 x4 h k Hk H
def l_X0_listWords_7 (v0 : Nat) (v1 : Int32) (h : Hp) : Option Hp := loopK FUEL (fun (k : Int32 × Hp → Option Hp) (s : Int32 × Hp) => b_X0_listWords_7 v0 (fun v1q hq => k (v1q, hq)) s.1 s.2) (v1, h)
theorem okl_X0_listWords_7 {r : Hp} (v0 : Nat) (v1 : Int32) (h : Hp) (H : l_X0_listWords_7 v0 v1 h = some r) : Go M_X0_listWords (none, r) 7 [some (aA v0), some (aI v1), none, none] [] h := by
  unfold l_X0_listWords_7 at H
  exact go_loop (σ := Int32 × Hp) (body := (fun (k : Int32 × Hp → Option Hp) (s : Int32 × Hp) => b_X0_listWords_7 v0 (fun v1q hq => k (v1q, hq)) s.1 s.2)) (fun s => [some (aA v0), some (aI s.1), none, none]) (fun s => s.2) (fun k s Hk H => okb_X0_listWords_7 v0 (fun v1q hq => k (v1q, hq)) s.1 s.2  (fun v1q hq H => Hk (v1q, hq) H) H) FUEL (v1, h) H
def m_X0_listWords (v0 : Nat) (h : Hp) : Option Hp :=
  (pfI h v0 1 2 (0 : Int32)).bind fun hh1 => l_X0_listWords_7 v0 (0 : Int32) hh1
set_option maxRecDepth 20000 in
theorem ok_X0_listWords {r : Hp} {v0 : Nat} {h : Hp} (H : m_X0_listWords v0 h = some r) : Ev M_X0_listWords [aA v0] h (none, r) := by
  show Go M_X0_listWords (none, r) 0 [some (aA v0), none, none, none] [] h
  unfold m_X0_listWords at H
  refine go_aloadn dX0_listWords_0 rfl ?_
  refine go_iconst (v := (0 : Int32)) dX0_listWords_1 rfl ?_
  refine gm_putI fd_X0_18 (Or.inl rfl) dX0_listWords_2 H (fun hh1 H => ?_)
  refine go_iconst (v := (0 : Int32)) dX0_listWords_5 rfl ?_
  refine go_istoren (loc2 := [some (aA v0), some (aI (0 : Int32)), none, none]) dX0_listWords_6 rfl (by decide) rfl ?_
  exact okl_X0_listWords_7 v0 (0 : Int32) hh1 H
/-! X7_take -/
def j_X7_take_107 (v0 : Nat) (v1 : Nat) (v2 : Int32) (v3 : Int32)  (h : Hp) (K72 : Hp → Option Hp) (K113 : Hp → Option Hp) (k : Int32 → Hp → Option Hp) : Option Hp :=
  k (v3 + (1 : Int32)) h
set_option maxRecDepth 20000 in
theorem okj_X7_take_107 {r : Hp} (v0 : Nat) (v1 : Nat) (v2 : Int32) (v3 : Int32)  (h : Hp) (K72 : Hp → Option Hp) (K113 : Hp → Option Hp) (k : Int32 → Hp → Option Hp) (HK72 : ∀   (hq : Hp), K72 hq = some r → Go M_X7_take (none, r) 72 [some (aA v0), none, none, none] [] hq) (HK113 : ∀   (hq : Hp), K113 hq = some r → Go M_X7_take (none, r) 113 [some (aA v0), none, none, none] [] hq) (Hk : ∀ (v3q : Int32) (hq : Hp), k v3q hq = some r → Go M_X7_take (none, r) 45 [some (aA v0), some (aA v1), some (aI v2), some (aI v3q)] [] hq) (H : j_X7_take_107 v0 v1 v2 v3 h K72 K113 k = some r) : Go M_X7_take (none, r) 107 [some (aA v0), some (aA v1), some (aI v2), some (aI v3)] [] h := by
  unfold j_X7_take_107 at H
  refine go_iinc (v := (v3 + (1 : Int32))) (loc2 := [some (aA v0), some (aA v1), some (aI v2), some (aI (v3 + (1 : Int32)))]) dX7_take_107 rfl rfl (by decide) rfl ?_
  refine go_goto (tgt := 45) dX7_take_110 (by decide) ?_
  exact Hk (v3 + (1 : Int32)) h H
def b_X7_take_45 (v0 : Nat) (v1 : Nat) (v2 : Int32) (K72 : Hp → Option Hp) (K113 : Hp → Option Hp) (k : Int32 → Hp → Option Hp) (v3 : Int32) (h : Hp) : Option Hp :=
  if (600 : Int32) ≤ v3 then K113 h else (gfI h v0 7 4).bind fun x1 => if ¬ x1 = 0 then K113 h else (gfR h v0 7 0).bind fun x2 => (rc h x2 5 (m_X4_read x2 v1 v2 h)).bind fun x3 => if x3.1 = (2 : Int32) then ((rc x3.2 v0 7 (m_X7_noteWhatCanNotBe v0 x3.2)).bind fun x4 => if ¬ v2 = 0 then (if ¬ v2 = (1 : Int32) then ((rc x4 v0 7 (m_X7_takeFact v0 x4)).bind fun x5 => j_X7_take_107 v0 v1 v2 v3 x5 K72 K113 k) else (rc x4 v0 7 (m_X7_takeQuestion v0 x4)).bind fun x6 => j_X7_take_107 v0 v1 v2 v3 x6 K72 K113 k) else (rc x4 v0 7 (m_X7_takeVersion v0 v3 x4)).bind fun x7 => j_X7_take_107 v0 v1 v2 v3 x7 K72 K113 k) else K72 x3.2
set_option maxRecDepth 20000 in
theorem okb_X7_take_45 {r : Hp} (v0 : Nat) (v1 : Nat) (v2 : Int32) (K72 : Hp → Option Hp) (K113 : Hp → Option Hp) (k : Int32 → Hp → Option Hp) (v3 : Int32) (h : Hp) (HK72 : ∀   (hq : Hp), K72 hq = some r → Go M_X7_take (none, r) 72 [some (aA v0), none, none, none] [] hq) (HK113 : ∀   (hq : Hp), K113 hq = some r → Go M_X7_take (none, r) 113 [some (aA v0), none, none, none] [] hq) (Hk : ∀ (v3q : Int32) (hq : Hp), k v3q hq = some r → Go M_X7_take (none, r) 45 [some (aA v0), some (aA v1), some (aI v2), some (aI v3q)] [] hq) (H : b_X7_take_45 v0 v1 v2 K72 K113 k v3 h = some r) : Go M_X7_take (none, r) 45 [some (aA v0), some (aA v1), some (aI v2), some (aI v3)] [] h := by
  unfold b_X7_take_45 at H
  refine go_iloadn dX7_take_45 rfl ?_
  refine go_sipush (v := (600 : Int32)) dX7_take_46 rfl ?_
  refine go_icmp_ge (tgt := 113) dX7_take_49 (by decide) (fun c1 => ?_) (fun c1 => ?_)
  · replace H := (gm_ite H).1 c1
    refine go_mask [true, false, false, false] (loc' := [some (aA v0), none, none, none]) rfl ?_
    exact HK113 h H
  · replace H := (gm_ite H).2 c1
    refine go_aloadn dX7_take_52 rfl ?_
    refine gm_getI fd_X7_39 dX7_take_53 H (fun x1 H => ?_)
    refine go_if_ne (tgt := 113) dX7_take_56 (by decide) (fun c2 => ?_) (fun c2 => ?_)
    · replace H := (gm_ite H).1 c2
      refine go_mask [true, false, false, false] (loc' := [some (aA v0), none, none, none]) rfl ?_
      exact HK113 h H
    · replace H := (gm_ite H).2 c2
      refine go_aloadn dX7_take_59 rfl ?_
      refine gm_getR fd_X7_12 dX7_take_60 H (fun x2 H => ?_)
      refine go_aloadn dX7_take_63 rfl ?_
      refine go_iloadn dX7_take_64 rfl ?_
      obtain ⟨c3, x3, ex3, H⟩ := gm_rc H
      refine go_callV (vs := [aA v1, aI v2]) (stk := []) (o1 := (some (aI x3.1), x3.2)) mk_X4_read sv_X7_take_62 cl_X4 rfl dX7_take_65 c3 rfl rfl (Nat.le_of_ble_eq_true rfl) (Nat.le_of_ble_eq_true rfl) (ok_X4_read ex3) (show Go M_X7_take (none, r) 68 [some (aA v0), some (aA v1), some (aI v2), some (aI v3)] [aI x3.1] x3.2 from ?_)
      refine go_iconst (v := (2 : Int32)) dX7_take_68 rfl ?_
      refine go_icmp_eq (tgt := 75) dX7_take_69 (by decide) (fun c4 => ?_) (fun c4 => ?_)
      · replace H := (gm_ite H).1 c4
        refine go_aloadn dX7_take_75 rfl ?_
        obtain ⟨c5, x4, ex4, H⟩ := gm_rc H
        refine go_callV (vs := []) (stk := []) (o1 := (none, x4)) mk_X7_noteWhatCanNotBe sv_X7_take_66 cl_X7 rfl dX7_take_76 c5 rfl rfl (Nat.le_of_ble_eq_true rfl) (Nat.le_of_ble_eq_true rfl) (ok_X7_noteWhatCanNotBe ex4) (show Go M_X7_take (none, r) 79 [some (aA v0), some (aA v1), some (aI v2), some (aI v3)] [] x4 from ?_)
        refine go_iloadn dX7_take_79 rfl ?_
        refine go_if_ne (tgt := 91) dX7_take_80 (by decide) (fun c6 => ?_) (fun c6 => ?_)
        · replace H := (gm_ite H).1 c6
          refine go_iloadn dX7_take_91 rfl ?_
          refine go_iconst (v := (1 : Int32)) dX7_take_92 rfl ?_
          refine go_icmp_ne (tgt := 103) dX7_take_93 (by decide) (fun c7 => ?_) (fun c7 => ?_)
          · replace H := (gm_ite H).1 c7
            refine go_aloadn dX7_take_103 rfl ?_
            obtain ⟨c8, x5, ex5, H⟩ := gm_rc H
            refine go_callV (vs := []) (stk := []) (o1 := (none, x5)) mk_X7_takeFact sv_X7_take_78 cl_X7 rfl dX7_take_104 c8 rfl rfl (Nat.le_of_ble_eq_true rfl) (Nat.le_of_ble_eq_true rfl) (ok_X7_takeFact ex5) (show Go M_X7_take (none, r) 107 [some (aA v0), some (aA v1), some (aI v2), some (aI v3)] [] x5 from ?_)
            exact okj_X7_take_107 v0 v1 v2 v3 x5 K72 K113 k HK72 HK113 Hk H
          · replace H := (gm_ite H).2 c7
            refine go_aloadn dX7_take_96 rfl ?_
            obtain ⟨c9, x6, ex6, H⟩ := gm_rc H
            refine go_callV (vs := []) (stk := []) (o1 := (none, x6)) mk_X7_takeQuestion sv_X7_take_75 cl_X7 rfl dX7_take_97 c9 rfl rfl (Nat.le_of_ble_eq_true rfl) (Nat.le_of_ble_eq_true rfl) (ok_X7_takeQuestion ex6) (show Go M_X7_take (none, r) 100 [some (aA v0), some (aA v1), some (aI v2), some (aI v3)] [] x6 from ?_)
            refine go_goto (tgt := 107) dX7_take_100 (by decide) ?_
            exact okj_X7_take_107 v0 v1 v2 v3 x6 K72 K113 k HK72 HK113 Hk H
        · replace H := (gm_ite H).2 c6
          refine go_aloadn dX7_take_83 rfl ?_
          refine go_iloadn dX7_take_84 rfl ?_
          obtain ⟨c10, x7, ex7, H⟩ := gm_rc H
          refine go_callV (vs := [aI v3]) (stk := []) (o1 := (none, x7)) mk_X7_takeVersion sv_X7_take_69 cl_X7 rfl dX7_take_85 c10 rfl rfl (Nat.le_of_ble_eq_true rfl) (Nat.le_of_ble_eq_true rfl) (ok_X7_takeVersion ex7) (show Go M_X7_take (none, r) 88 [some (aA v0), some (aA v1), some (aI v2), some (aI v3)] [] x7 from ?_)
          refine go_goto (tgt := 107) dX7_take_88 (by decide) ?_
          exact okj_X7_take_107 v0 v1 v2 v3 x7 K72 K113 k HK72 HK113 Hk H
      · replace H := (gm_ite H).2 c4
        refine go_mask [true, false, false, false] (loc' := [some (aA v0), none, none, none]) rfl ?_
        exact HK72 x3.2 H
def l_X7_take_45 (v0 : Nat) (v1 : Nat) (v2 : Int32) (K72 : Hp → Option Hp) (K113 : Hp → Option Hp) (v3 : Int32) (h : Hp) : Option Hp := loopK FUEL (fun (k : Int32 × Hp → Option Hp) (s : Int32 × Hp) => b_X7_take_45 v0 v1 v2 K72 K113 (fun v3q hq => k (v3q, hq)) s.1 s.2) (v3, h)
theorem okl_X7_take_45 {r : Hp} (v0 : Nat) (v1 : Nat) (v2 : Int32) (K72 : Hp → Option Hp) (K113 : Hp → Option Hp) (v3 : Int32) (h : Hp) (HK72 : ∀   (hq : Hp), K72 hq = some r → Go M_X7_take (none, r) 72 [some (aA v0), none, none, none] [] hq) (HK113 : ∀   (hq : Hp), K113 hq = some r → Go M_X7_take (none, r) 113 [some (aA v0), none, none, none] [] hq) (H : l_X7_take_45 v0 v1 v2 K72 K113 v3 h = some r) : Go M_X7_take (none, r) 45 [some (aA v0), some (aA v1), some (aI v2), some (aI v3)] [] h := by
  unfold l_X7_take_45 at H
  exact go_loop (σ := Int32 × Hp) (body := (fun (k : Int32 × Hp → Option Hp) (s : Int32 × Hp) => b_X7_take_45 v0 v1 v2 K72 K113 (fun v3q hq => k (v3q, hq)) s.1 s.2)) (fun s => [some (aA v0), some (aA v1), some (aI v2), some (aI s.1)]) (fun s => s.2) (fun k s Hk H => okb_X7_take_45 v0 v1 v2 K72 K113 (fun v3q hq => k (v3q, hq)) s.1 s.2 HK72 HK113 (fun v3q hq H => Hk (v3q, hq) H) H) FUEL (v3, h) H
def j_X7_take_113 (v0 : Nat)  (h : Hp) : Option Hp :=
  (gfR h v0 7 1).bind fun x1 => (rc h x1 1 (m_X0_listWords x1 h)).bind fun x2 => some x2
set_option maxRecDepth 20000 in
theorem okj_X7_take_113 {r : Hp} (v0 : Nat)  (h : Hp) (H : j_X7_take_113 v0 h = some r) : Go M_X7_take (none, r) 113 [some (aA v0), none, none, none] [] h := by
  unfold j_X7_take_113 at H
  refine go_aloadn dX7_take_113 rfl ?_
  refine gm_getR fd_X7_21 dX7_take_114 H (fun x1 H => ?_)
  obtain ⟨c1, x2, ex2, H⟩ := gm_rc H
  refine go_callV (vs := []) (stk := []) (o1 := (none, x2)) mk_X0_listWords sv_X7_take_81 cl_X0 rfl dX7_take_117 c1 rfl rfl (Nat.le_of_ble_eq_true rfl) (Nat.le_of_ble_eq_true rfl) (ok_X0_listWords ex2) (show Go M_X7_take (none, r) 120 [some (aA v0), none, none, none] [] x2 from ?_)
  obtain rfl := Option.some.inj H
  exact go_return dX7_take_120 rfl
def j_X7_take_72 (v0 : Nat)  (h : Hp) : Option Hp :=
  j_X7_take_113 v0 h
set_option maxRecDepth 20000 in
theorem okj_X7_take_72 {r : Hp} (v0 : Nat)  (h : Hp) (H : j_X7_take_72 v0 h = some r) : Go M_X7_take (none, r) 72 [some (aA v0), none, none, none] [] h := by
  unfold j_X7_take_72 at H
  refine go_goto (tgt := 113) dX7_take_72 (by decide) ?_
  exact okj_X7_take_113 v0 h  H
def m_X7_take (v0 : Nat) (v1 : Nat) (v2 : Int32) (h : Hp) : Option Hp :=
  (pfI h v0 7 4 (0 : Int32)).bind fun hh1 => (pfI hh1 v0 7 5 (-1 : Int32)).bind fun hh2 => (gfR hh2 v0 7 1).bind fun x1 => (rc hh2 x1 1 (m_X0_clear x1 hh2)).bind fun x2 => (gfR x2 v0 7 2).bind fun x3 => (pfI x2 x3 6 0 (0 : Int32)).bind fun hh3 => (gfR hh3 v0 7 3).bind fun x4 => (pfI hh3 x4 4 0 (0 : Int32)).bind fun hh4 => (rc hh4 v0 7 (m_X7_noteNoText v0 v1 v2 hh4)).bind fun x5 => (rc x5 v1 10 (m_X10_rewind v1 x5)).bind fun x6 => l_X7_take_45 v0 v1 v2 (fun hz7 => j_X7_take_72 v0 hz7) (fun hz8 => j_X7_take_113 v0 hz8) (0 : Int32) x6
set_option maxRecDepth 20000 in
theorem ok_X7_take {r : Hp} {v0 : Nat} {v1 : Nat} {v2 : Int32} {h : Hp} (H : m_X7_take v0 v1 v2 h = some r) : Ev M_X7_take [aA v0, aA v1, aI v2] h (none, r) := by
  show Go M_X7_take (none, r) 0 [some (aA v0), some (aA v1), some (aI v2), none] [] h
  unfold m_X7_take at H
  refine go_aloadn dX7_take_0 rfl ?_
  refine go_iconst (v := (0 : Int32)) dX7_take_1 rfl ?_
  refine gm_putI fd_X7_39 (Or.inl rfl) dX7_take_2 H (fun hh1 H => ?_)
  refine go_aloadn dX7_take_5 rfl ?_
  refine go_iconst (v := (-1 : Int32)) dX7_take_6 rfl ?_
  refine gm_putI fd_X7_43 (Or.inl rfl) dX7_take_7 H (fun hh2 H => ?_)
  refine go_aloadn dX7_take_10 rfl ?_
  refine gm_getR fd_X7_21 dX7_take_11 H (fun x1 H => ?_)
  obtain ⟨c1, x2, ex2, H⟩ := gm_rc H
  refine go_callV (vs := []) (stk := []) (o1 := (none, x2)) mk_X0_clear sv_X7_take_46 cl_X0 rfl dX7_take_14 c1 rfl rfl (Nat.le_of_ble_eq_true rfl) (Nat.le_of_ble_eq_true rfl) (ok_X0_clear ex2) (show Go M_X7_take (none, r) 17 [some (aA v0), some (aA v1), some (aI v2), none] [] x2 from ?_)
  refine go_aloadn dX7_take_17 rfl ?_
  refine gm_getR fd_X7_28 dX7_take_18 H (fun x3 H => ?_)
  refine go_iconst (v := (0 : Int32)) dX7_take_21 rfl ?_
  refine gm_putI fd_X7_49 (Or.inl rfl) dX7_take_22 H (fun hh3 H => ?_)
  refine go_aloadn dX7_take_25 rfl ?_
  refine gm_getR fd_X7_35 dX7_take_26 H (fun x4 H => ?_)
  refine go_iconst (v := (0 : Int32)) dX7_take_29 rfl ?_
  refine gm_putI fd_X7_52 (Or.inl rfl) dX7_take_30 H (fun hh4 H => ?_)
  refine go_aloadn dX7_take_33 rfl ?_
  refine go_aloadn dX7_take_34 rfl ?_
  refine go_iloadn dX7_take_35 rfl ?_
  obtain ⟨c2, x5, ex5, H⟩ := gm_rc H
  refine go_callV (vs := [aA v1, aI v2]) (stk := []) (o1 := (none, x5)) mk_X7_noteNoText sv_X7_take_53 cl_X7 rfl dX7_take_36 c2 rfl rfl (Nat.le_of_ble_eq_true rfl) (Nat.le_of_ble_eq_true rfl) (ok_X7_noteNoText ex5) (show Go M_X7_take (none, r) 39 [some (aA v0), some (aA v1), some (aI v2), none] [] x5 from ?_)
  refine go_aloadn dX7_take_39 rfl ?_
  obtain ⟨c3, x6, ex6, H⟩ := gm_rc H
  refine go_callV (vs := []) (stk := []) (o1 := (none, x6)) mk_X10_rewind sv_X7_take_57 cl_X10 rfl dX7_take_40 c3 rfl rfl (Nat.le_of_ble_eq_true rfl) (Nat.le_of_ble_eq_true rfl) (ok_X10_rewind ex6) (show Go M_X7_take (none, r) 43 [some (aA v0), some (aA v1), some (aI v2), none] [] x6 from ?_)
  refine go_iconst (v := (0 : Int32)) dX7_take_43 rfl ?_
  refine go_istoren (loc2 := [some (aA v0), some (aA v1), some (aI v2), some (aI (0 : Int32))]) dX7_take_44 rfl (by decide) rfl ?_
  refine okl_X7_take_45 v0 v1 v2 (fun hz7 => j_X7_take_72 v0 hz7) (fun hz8 => j_X7_take_113 v0 hz8) (0 : Int32) x6 ?_ ?_ H
  · intro hz7 H
    exact okj_X7_take_72 v0 hz7  H
  · intro hz8 H
    exact okj_X7_take_113 v0 hz8  H
/-! X5_copy -/
def m_X5_copy (v0 : Nat) (v1 : Nat) (h : Hp) : Option Hp :=
  (alen h v0 20).bind fun x1 => (alen h v1 20).bind fun x2 => (m_J9_min_7cf53 x1 x2 h).bind fun x3 => (cpI h 20 v0 v1 (0 : Int32) (0 : Int32) x3).bind fun hh1 => some hh1
set_option maxRecDepth 20000 in
theorem ok_X5_copy {r : Hp} {v0 : Nat} {v1 : Nat} {h : Hp} (H : m_X5_copy v0 v1 h = some r) : Ev M_X5_copy [aA v0, aA v1] h (none, r) := by
  show Go M_X5_copy (none, r) 0 [some (aA v0), some (aA v1)] [] h
  unfold m_X5_copy at H
  refine go_aloadn dX5_copy_0 rfl ?_
  refine go_iconst (v := (0 : Int32)) dX5_copy_1 rfl ?_
  refine go_aloadn dX5_copy_2 rfl ?_
  refine go_iconst (v := (0 : Int32)) dX5_copy_3 rfl ?_
  refine go_aloadn dX5_copy_4 rfl ?_
  refine gm_alen (by decide) dX5_copy_5 H (fun x1 H => ?_)
  refine go_aloadn dX5_copy_6 rfl ?_
  refine gm_alen (by decide) dX5_copy_7 H (fun x2 H => ?_)
  obtain ⟨x3, ex3, H⟩ := bind_some H
  refine go_callS (vs := [aI x1, aI x2]) (stk := [aI (0 : Int32), aA v1, aI (0 : Int32), aA v0]) (o1 := (some (aI x3), h)) mk_J9_min_7cf53 ss_X5_copy_11 dX5_copy_8 rfl rfl (Nat.le_of_ble_eq_true rfl) (Nat.le_of_ble_eq_true rfl) (ok_J9_min_7cf53 ex3) (show Go M_X5_copy (none, r) 11 [some (aA v0), some (aA v1)] [aI x3, aI (0 : Int32), aA v1, aI (0 : Int32), aA v0] h from ?_)
  refine gm_copyI sc_X5_copy_17 (by decide) dX5_copy_11 (Nat.le_of_ble_eq_true rfl) H (fun hh1 H => ?_)
  obtain rfl := Option.some.inj H
  exact go_return dX5_copy_14 rfl
/-! X0_copyFrom -/
def m_X0_copyFrom (v0 : Nat) (v1 : Nat) (h : Hp) : Option Hp :=
  (gfI h v1 1 0).bind fun x1 => (pfI h v0 1 0 x1).bind fun hh1 => (gfI hh1 v1 1 1).bind fun x2 => (pfI hh1 v0 1 1 x2).bind fun hh2 => (gfI hh2 v1 1 2).bind fun x3 => (pfI hh2 v0 1 2 x3).bind fun hh3 => (gfR hh3 v1 1 3).bind fun x4 => (gfR hh3 v0 1 3).bind fun x5 => (m_X5_copy x4 x5 hh3).bind fun x6 => (gfR x6 v1 1 4).bind fun x7 => (gfR x6 v0 1 4).bind fun x8 => (m_X5_copy x7 x8 x6).bind fun x9 => (gfR x9 v1 1 5).bind fun x10 => (gfR x9 v0 1 5).bind fun x11 => (m_X5_copy x10 x11 x9).bind fun x12 => (gfR x12 v1 1 6).bind fun x13 => (gfR x12 v0 1 6).bind fun x14 => (m_X5_copy x13 x14 x12).bind fun x15 => (gfR x15 v1 1 7).bind fun x16 => (gfR x15 v0 1 7).bind fun x17 => (m_X5_copy x16 x17 x15).bind fun x18 => (gfR x18 v1 1 8).bind fun x19 => (gfR x18 v0 1 8).bind fun x20 => (m_X5_copy x19 x20 x18).bind fun x21 => (gfR x21 v1 1 9).bind fun x22 => (gfR x21 v0 1 9).bind fun x23 => (m_X5_copy x22 x23 x21).bind fun x24 => (gfR x24 v1 1 10).bind fun x25 => (gfR x24 v0 1 10).bind fun x26 => (m_X5_copy x25 x26 x24).bind fun x27 => (gfR x27 v1 1 11).bind fun x28 => (gfR x27 v0 1 11).bind fun x29 => (gfR x27 v1 1 11).bind fun x30 => (alen x27 x30 22).bind fun x31 => (gfR x27 v0 1 11).bind fun x32 => (alen x27 x32 22).bind fun x33 => (m_J9_min_7cf53 x31 x33 x27).bind fun x34 => (cpJ x27 x28 x29 (0 : Int32) (0 : Int32) x34).bind fun hh4 => some hh4
set_option maxRecDepth 20000 in
theorem ok_X0_copyFrom {r : Hp} {v0 : Nat} {v1 : Nat} {h : Hp} (H : m_X0_copyFrom v0 v1 h = some r) : Ev M_X0_copyFrom [aA v0, aA v1] h (none, r) := by
  show Go M_X0_copyFrom (none, r) 0 [some (aA v0), some (aA v1)] [] h
  unfold m_X0_copyFrom at H
  refine go_aloadn dX0_copyFrom_0 rfl ?_
  refine go_aloadn dX0_copyFrom_1 rfl ?_
  refine gm_getI fd_X0_11 dX0_copyFrom_2 H (fun x1 H => ?_)
  refine gm_putI fd_X0_11 (Or.inl rfl) dX0_copyFrom_5 H (fun hh1 H => ?_)
  refine go_aloadn dX0_copyFrom_8 rfl ?_
  refine go_aloadn dX0_copyFrom_9 rfl ?_
  refine gm_getI fd_X0_15 dX0_copyFrom_10 H (fun x2 H => ?_)
  refine gm_putI fd_X0_15 (Or.inl rfl) dX0_copyFrom_13 H (fun hh2 H => ?_)
  refine go_aloadn dX0_copyFrom_16 rfl ?_
  refine go_aloadn dX0_copyFrom_17 rfl ?_
  refine gm_getI fd_X0_18 dX0_copyFrom_18 H (fun x3 H => ?_)
  refine gm_putI fd_X0_18 (Or.inl rfl) dX0_copyFrom_21 H (fun hh3 H => ?_)
  refine go_aloadn dX0_copyFrom_24 rfl ?_
  refine gm_getR fd_X0_21 dX0_copyFrom_25 H (fun x4 H => ?_)
  refine go_aloadn dX0_copyFrom_28 rfl ?_
  refine gm_getR fd_X0_21 dX0_copyFrom_29 H (fun x5 H => ?_)
  obtain ⟨x6, ex6, H⟩ := bind_some H
  refine go_callS (vs := [aA x4, aA x5]) (stk := []) (o1 := (none, x6)) mk_X5_copy ss_X0_copyFrom_56 dX0_copyFrom_32 rfl rfl (Nat.le_of_ble_eq_true rfl) (Nat.le_of_ble_eq_true rfl) (ok_X5_copy ex6) (show Go M_X0_copyFrom (none, r) 35 [some (aA v0), some (aA v1)] [] x6 from ?_)
  refine go_aloadn dX0_copyFrom_35 rfl ?_
  refine gm_getR fd_X0_25 dX0_copyFrom_36 H (fun x7 H => ?_)
  refine go_aloadn dX0_copyFrom_39 rfl ?_
  refine gm_getR fd_X0_25 dX0_copyFrom_40 H (fun x8 H => ?_)
  obtain ⟨x9, ex9, H⟩ := bind_some H
  refine go_callS (vs := [aA x7, aA x8]) (stk := []) (o1 := (none, x9)) mk_X5_copy ss_X0_copyFrom_56 dX0_copyFrom_43 rfl rfl (Nat.le_of_ble_eq_true rfl) (Nat.le_of_ble_eq_true rfl) (ok_X5_copy ex9) (show Go M_X0_copyFrom (none, r) 46 [some (aA v0), some (aA v1)] [] x9 from ?_)
  refine go_aloadn dX0_copyFrom_46 rfl ?_
  refine gm_getR fd_X0_28 dX0_copyFrom_47 H (fun x10 H => ?_)
  refine go_aloadn dX0_copyFrom_50 rfl ?_
  refine gm_getR fd_X0_28 dX0_copyFrom_51 H (fun x11 H => ?_)
  obtain ⟨x12, ex12, H⟩ := bind_some H
  refine go_callS (vs := [aA x10, aA x11]) (stk := []) (o1 := (none, x12)) mk_X5_copy ss_X0_copyFrom_56 dX0_copyFrom_54 rfl rfl (Nat.le_of_ble_eq_true rfl) (Nat.le_of_ble_eq_true rfl) (ok_X5_copy ex12) (show Go M_X0_copyFrom (none, r) 57 [some (aA v0), some (aA v1)] [] x12 from ?_)
  refine go_aloadn dX0_copyFrom_57 rfl ?_
  refine gm_getR fd_X0_31 dX0_copyFrom_58 H (fun x13 H => ?_)
  refine go_aloadn dX0_copyFrom_61 rfl ?_
  refine gm_getR fd_X0_31 dX0_copyFrom_62 H (fun x14 H => ?_)
  obtain ⟨x15, ex15, H⟩ := bind_some H
  refine go_callS (vs := [aA x13, aA x14]) (stk := []) (o1 := (none, x15)) mk_X5_copy ss_X0_copyFrom_56 dX0_copyFrom_65 rfl rfl (Nat.le_of_ble_eq_true rfl) (Nat.le_of_ble_eq_true rfl) (ok_X5_copy ex15) (show Go M_X0_copyFrom (none, r) 68 [some (aA v0), some (aA v1)] [] x15 from ?_)
  refine go_aloadn dX0_copyFrom_68 rfl ?_
  refine gm_getR fd_X0_34 dX0_copyFrom_69 H (fun x16 H => ?_)
  refine go_aloadn dX0_copyFrom_72 rfl ?_
  refine gm_getR fd_X0_34 dX0_copyFrom_73 H (fun x17 H => ?_)
  obtain ⟨x18, ex18, H⟩ := bind_some H
  refine go_callS (vs := [aA x16, aA x17]) (stk := []) (o1 := (none, x18)) mk_X5_copy ss_X0_copyFrom_56 dX0_copyFrom_76 rfl rfl (Nat.le_of_ble_eq_true rfl) (Nat.le_of_ble_eq_true rfl) (ok_X5_copy ex18) (show Go M_X0_copyFrom (none, r) 79 [some (aA v0), some (aA v1)] [] x18 from ?_)
  refine go_aloadn dX0_copyFrom_79 rfl ?_
  refine gm_getR fd_X0_37 dX0_copyFrom_80 H (fun x19 H => ?_)
  refine go_aloadn dX0_copyFrom_83 rfl ?_
  refine gm_getR fd_X0_37 dX0_copyFrom_84 H (fun x20 H => ?_)
  obtain ⟨x21, ex21, H⟩ := bind_some H
  refine go_callS (vs := [aA x19, aA x20]) (stk := []) (o1 := (none, x21)) mk_X5_copy ss_X0_copyFrom_56 dX0_copyFrom_87 rfl rfl (Nat.le_of_ble_eq_true rfl) (Nat.le_of_ble_eq_true rfl) (ok_X5_copy ex21) (show Go M_X0_copyFrom (none, r) 90 [some (aA v0), some (aA v1)] [] x21 from ?_)
  refine go_aloadn dX0_copyFrom_90 rfl ?_
  refine gm_getR fd_X0_40 dX0_copyFrom_91 H (fun x22 H => ?_)
  refine go_aloadn dX0_copyFrom_94 rfl ?_
  refine gm_getR fd_X0_40 dX0_copyFrom_95 H (fun x23 H => ?_)
  obtain ⟨x24, ex24, H⟩ := bind_some H
  refine go_callS (vs := [aA x22, aA x23]) (stk := []) (o1 := (none, x24)) mk_X5_copy ss_X0_copyFrom_56 dX0_copyFrom_98 rfl rfl (Nat.le_of_ble_eq_true rfl) (Nat.le_of_ble_eq_true rfl) (ok_X5_copy ex24) (show Go M_X0_copyFrom (none, r) 101 [some (aA v0), some (aA v1)] [] x24 from ?_)
  refine go_aloadn dX0_copyFrom_101 rfl ?_
  refine gm_getR fd_X0_43 dX0_copyFrom_102 H (fun x25 H => ?_)
  refine go_aloadn dX0_copyFrom_105 rfl ?_
  refine gm_getR fd_X0_43 dX0_copyFrom_106 H (fun x26 H => ?_)
  obtain ⟨x27, ex27, H⟩ := bind_some H
  refine go_callS (vs := [aA x25, aA x26]) (stk := []) (o1 := (none, x27)) mk_X5_copy ss_X0_copyFrom_56 dX0_copyFrom_109 rfl rfl (Nat.le_of_ble_eq_true rfl) (Nat.le_of_ble_eq_true rfl) (ok_X5_copy ex27) (show Go M_X0_copyFrom (none, r) 112 [some (aA v0), some (aA v1)] [] x27 from ?_)
  refine go_aloadn dX0_copyFrom_112 rfl ?_
  refine gm_getR fd_X0_46 dX0_copyFrom_113 H (fun x28 H => ?_)
  refine go_iconst (v := (0 : Int32)) dX0_copyFrom_116 rfl ?_
  refine go_aloadn dX0_copyFrom_117 rfl ?_
  refine gm_getR fd_X0_46 dX0_copyFrom_118 H (fun x29 H => ?_)
  refine go_iconst (v := (0 : Int32)) dX0_copyFrom_121 rfl ?_
  refine go_aloadn dX0_copyFrom_122 rfl ?_
  refine gm_getR fd_X0_46 dX0_copyFrom_123 H (fun x30 H => ?_)
  refine gm_alen (by decide) dX0_copyFrom_126 H (fun x31 H => ?_)
  refine go_aloadn dX0_copyFrom_127 rfl ?_
  refine gm_getR fd_X0_46 dX0_copyFrom_128 H (fun x32 H => ?_)
  refine gm_alen (by decide) dX0_copyFrom_131 H (fun x33 H => ?_)
  obtain ⟨x34, ex34, H⟩ := bind_some H
  refine go_callS (vs := [aI x31, aI x33]) (stk := [aI (0 : Int32), aA x29, aI (0 : Int32), aA x28]) (o1 := (some (aI x34), x27)) mk_J9_min_7cf53 ss_X0_copyFrom_60 dX0_copyFrom_132 rfl rfl (Nat.le_of_ble_eq_true rfl) (Nat.le_of_ble_eq_true rfl) (ok_J9_min_7cf53 ex34) (show Go M_X0_copyFrom (none, r) 135 [some (aA v0), some (aA v1)] [aI x34, aI (0 : Int32), aA x29, aI (0 : Int32), aA x28] x27 from ?_)
  refine gm_copyL sc_X0_copyFrom_66 dX0_copyFrom_135 (Nat.le_of_ble_eq_true rfl) H (fun hh4 H => ?_)
  obtain rfl := Option.some.inj H
  exact go_return dX0_copyFrom_138 rfl
/-! X6_copyFrom -/
def m_X6_copyFrom (v0 : Nat) (v1 : Nat) (h : Hp) : Option Hp :=
  (gfI h v1 6 0).bind fun x1 => (pfI h v0 6 0 x1).bind fun hh1 => (gfR hh1 v1 6 1).bind fun x2 => (gfR hh1 v0 6 1).bind fun x3 => (m_X5_copy x2 x3 hh1).bind fun x4 => (gfR x4 v1 6 2).bind fun x5 => (gfR x4 v0 6 2).bind fun x6 => (m_X5_copy x5 x6 x4).bind fun x7 => (gfR x7 v1 6 3).bind fun x8 => (gfR x7 v0 6 3).bind fun x9 => (m_X5_copy x8 x9 x7).bind fun x10 => (gfR x10 v1 6 4).bind fun x11 => (gfR x10 v0 6 4).bind fun x12 => (m_X5_copy x11 x12 x10).bind fun x13 => some x13
set_option maxRecDepth 20000 in
theorem ok_X6_copyFrom {r : Hp} {v0 : Nat} {v1 : Nat} {h : Hp} (H : m_X6_copyFrom v0 v1 h = some r) : Ev M_X6_copyFrom [aA v0, aA v1] h (none, r) := by
  show Go M_X6_copyFrom (none, r) 0 [some (aA v0), some (aA v1)] [] h
  unfold m_X6_copyFrom at H
  refine go_aloadn dX6_copyFrom_0 rfl ?_
  refine go_aloadn dX6_copyFrom_1 rfl ?_
  refine gm_getI fd_X6_9 dX6_copyFrom_2 H (fun x1 H => ?_)
  refine gm_putI fd_X6_9 (Or.inl rfl) dX6_copyFrom_5 H (fun hh1 H => ?_)
  refine go_aloadn dX6_copyFrom_8 rfl ?_
  refine gm_getR fd_X6_15 dX6_copyFrom_9 H (fun x2 H => ?_)
  refine go_aloadn dX6_copyFrom_12 rfl ?_
  refine gm_getR fd_X6_15 dX6_copyFrom_13 H (fun x3 H => ?_)
  obtain ⟨x4, ex4, H⟩ := bind_some H
  refine go_callS (vs := [aA x2, aA x3]) (stk := []) (o1 := (none, x4)) mk_X5_copy ss_X6_copyFrom_28 dX6_copyFrom_16 rfl rfl (Nat.le_of_ble_eq_true rfl) (Nat.le_of_ble_eq_true rfl) (ok_X5_copy ex4) (show Go M_X6_copyFrom (none, r) 19 [some (aA v0), some (aA v1)] [] x4 from ?_)
  refine go_aloadn dX6_copyFrom_19 rfl ?_
  refine gm_getR fd_X6_19 dX6_copyFrom_20 H (fun x5 H => ?_)
  refine go_aloadn dX6_copyFrom_23 rfl ?_
  refine gm_getR fd_X6_19 dX6_copyFrom_24 H (fun x6 H => ?_)
  obtain ⟨x7, ex7, H⟩ := bind_some H
  refine go_callS (vs := [aA x5, aA x6]) (stk := []) (o1 := (none, x7)) mk_X5_copy ss_X6_copyFrom_28 dX6_copyFrom_27 rfl rfl (Nat.le_of_ble_eq_true rfl) (Nat.le_of_ble_eq_true rfl) (ok_X5_copy ex7) (show Go M_X6_copyFrom (none, r) 30 [some (aA v0), some (aA v1)] [] x7 from ?_)
  refine go_aloadn dX6_copyFrom_30 rfl ?_
  refine gm_getR fd_X6_22 dX6_copyFrom_31 H (fun x8 H => ?_)
  refine go_aloadn dX6_copyFrom_34 rfl ?_
  refine gm_getR fd_X6_22 dX6_copyFrom_35 H (fun x9 H => ?_)
  obtain ⟨x10, ex10, H⟩ := bind_some H
  refine go_callS (vs := [aA x8, aA x9]) (stk := []) (o1 := (none, x10)) mk_X5_copy ss_X6_copyFrom_28 dX6_copyFrom_38 rfl rfl (Nat.le_of_ble_eq_true rfl) (Nat.le_of_ble_eq_true rfl) (ok_X5_copy ex10) (show Go M_X6_copyFrom (none, r) 41 [some (aA v0), some (aA v1)] [] x10 from ?_)
  refine go_aloadn dX6_copyFrom_41 rfl ?_
  refine gm_getR fd_X6_25 dX6_copyFrom_42 H (fun x11 H => ?_)
  refine go_aloadn dX6_copyFrom_45 rfl ?_
  refine gm_getR fd_X6_25 dX6_copyFrom_46 H (fun x12 H => ?_)
  obtain ⟨x13, ex13, H⟩ := bind_some H
  refine go_callS (vs := [aA x11, aA x12]) (stk := []) (o1 := (none, x13)) mk_X5_copy ss_X6_copyFrom_28 dX6_copyFrom_49 rfl rfl (Nat.le_of_ble_eq_true rfl) (Nat.le_of_ble_eq_true rfl) (ok_X5_copy ex13) (show Go M_X6_copyFrom (none, r) 52 [some (aA v0), some (aA v1)] [] x13 from ?_)
  obtain rfl := Option.some.inj H
  exact go_return dX6_copyFrom_52 rfl
/-! X3_copyFrom -/
def m_X3_copyFrom (v0 : Nat) (v1 : Nat) (h : Hp) : Option Hp :=
  (gfI h v1 4 0).bind fun x1 => (pfI h v0 4 0 x1).bind fun hh1 => (gfR hh1 v1 4 1).bind fun x2 => (gfR hh1 v0 4 1).bind fun x3 => (m_X5_copy x2 x3 hh1).bind fun x4 => some x4
set_option maxRecDepth 20000 in
theorem ok_X3_copyFrom {r : Hp} {v0 : Nat} {v1 : Nat} {h : Hp} (H : m_X3_copyFrom v0 v1 h = some r) : Ev M_X3_copyFrom [aA v0, aA v1] h (none, r) := by
  show Go M_X3_copyFrom (none, r) 0 [some (aA v0), some (aA v1)] [] h
  unfold m_X3_copyFrom at H
  refine go_aloadn dX3_copyFrom_0 rfl ?_
  refine go_aloadn dX3_copyFrom_1 rfl ?_
  refine gm_getI fd_X3_9 dX3_copyFrom_2 H (fun x1 H => ?_)
  refine gm_putI fd_X3_9 (Or.inl rfl) dX3_copyFrom_5 H (fun hh1 H => ?_)
  refine go_aloadn dX3_copyFrom_8 rfl ?_
  refine gm_getR fd_X3_15 dX3_copyFrom_9 H (fun x2 H => ?_)
  refine go_aloadn dX3_copyFrom_12 rfl ?_
  refine gm_getR fd_X3_15 dX3_copyFrom_13 H (fun x3 H => ?_)
  obtain ⟨x4, ex4, H⟩ := bind_some H
  refine go_callS (vs := [aA x2, aA x3]) (stk := []) (o1 := (none, x4)) mk_X5_copy ss_X3_copyFrom_19 dX3_copyFrom_16 rfl rfl (Nat.le_of_ble_eq_true rfl) (Nat.le_of_ble_eq_true rfl) (ok_X5_copy ex4) (show Go M_X3_copyFrom (none, r) 19 [some (aA v0), some (aA v1)] [] x4 from ?_)
  obtain rfl := Option.some.inj H
  exact go_return dX3_copyFrom_19 rfl
/-! J9_max_7cf53 -/
def j_J9_max_7cf53_10  (s0 : Int32) (h : Hp) : Option Int32 :=
  some s0
set_option maxRecDepth 20000 in
theorem okj_J9_max_7cf53_10 {r : Int32}  (s0 : Int32) (h : Hp) (H : j_J9_max_7cf53_10 s0 h = some r) : Go M_J9_max_7cf53 (some (aI r), h) 10 [none, none] [aI s0] h := by
  unfold j_J9_max_7cf53_10 at H
  obtain rfl := Option.some.inj H
  exact go_ireturn dJ9_max_7cf53_10 (tyI_int rfl)
def m_J9_max_7cf53 (v0 : Int32) (v1 : Int32) (h : Hp) : Option Int32 :=
  j_J9_max_7cf53_10 (if v0 < v1 then v1 else v0) h
set_option maxRecDepth 20000 in
theorem ok_J9_max_7cf53 {r : Int32} {v0 : Int32} {v1 : Int32} {h : Hp} (H : m_J9_max_7cf53 v0 v1 h = some r) : Ev M_J9_max_7cf53 [aI v0, aI v1] h (some (aI r), h) := by
  show Go M_J9_max_7cf53 (some (aI r), h) 0 [some (aI v0), some (aI v1)] [] h
  unfold m_J9_max_7cf53 at H
  refine go_iloadn dJ9_max_7cf53_0 rfl ?_
  refine go_iloadn dJ9_max_7cf53_1 rfl ?_
  refine go_icmp_lt (tgt := 9) dJ9_max_7cf53_2 (by decide) (fun c1 => ?_) (fun c1 => ?_)
  · rw [if_pos c1] at H
    refine go_iloadn dJ9_max_7cf53_9 rfl ?_
    refine go_mask [false, false] (loc' := [none, none]) rfl ?_
    exact okj_J9_max_7cf53_10 v1 h  H
  · rw [if_neg c1] at H
    refine go_iloadn dJ9_max_7cf53_5 rfl ?_
    refine go_goto (tgt := 10) dJ9_max_7cf53_6 (by decide) ?_
    refine go_mask [false, false] (loc' := [none, none]) rfl ?_
    exact okj_J9_max_7cf53_10 v0 h  H
/-! X9_keep -/
def j_X9_keep_81 (v0 : Nat) (v2 : Int32) (v3 : Int32)  (h : Hp) : Option Hp :=
  (gfR h v0 9 3).bind fun x1 => (rc h v0 9 (m_X9_howMany v0 v2 h)).bind fun x2 => (m_J9_max_7cf53 x2 (v3 + (1 : Int32)) h).bind fun x3 => (m_X5_set x1 v2 x3 h).bind fun x4 => some x4
set_option maxRecDepth 20000 in
theorem okj_X9_keep_81 {r : Hp} (v0 : Nat) (v2 : Int32) (v3 : Int32)  (h : Hp) (H : j_X9_keep_81 v0 v2 v3 h = some r) : Go M_X9_keep (none, r) 81 [some (aA v0), none, some (aI v2), some (aI v3)] [] h := by
  unfold j_X9_keep_81 at H
  refine go_aloadn dX9_keep_81 rfl ?_
  refine gm_getR fd_X9_25 dX9_keep_82 H (fun x1 H => ?_)
  refine go_iloadn dX9_keep_85 rfl ?_
  refine go_aloadn dX9_keep_86 rfl ?_
  refine go_iloadn dX9_keep_87 rfl ?_
  obtain ⟨c1, x2, ex2, H⟩ := gm_rc H
  refine go_callV (vs := [aI v2]) (stk := [aI v2, aA x1]) (o1 := (some (aI x2), h)) mk_X9_howMany sv_X9_keep_73 cl_X9 rfl dX9_keep_88 c1 rfl rfl (Nat.le_of_ble_eq_true rfl) (Nat.le_of_ble_eq_true rfl) (ok_X9_howMany ex2) (show Go M_X9_keep (none, r) 91 [some (aA v0), none, some (aI v2), some (aI v3)] [aI x2, aI v2, aA x1] h from ?_)
  refine go_iloadn dX9_keep_91 rfl ?_
  refine go_iconst (v := (1 : Int32)) dX9_keep_92 rfl ?_
  refine go_iadd dX9_keep_93 ?_
  obtain ⟨x3, ex3, H⟩ := bind_some H
  refine go_callS (vs := [aI x2, aI (v3 + (1 : Int32))]) (stk := [aI v2, aA x1]) (o1 := (some (aI x3), h)) mk_J9_max_7cf53 ss_X9_keep_98 dX9_keep_94 rfl rfl (Nat.le_of_ble_eq_true rfl) (Nat.le_of_ble_eq_true rfl) (ok_J9_max_7cf53 ex3) (show Go M_X9_keep (none, r) 97 [some (aA v0), none, some (aI v2), some (aI v3)] [aI x3, aI v2, aA x1] h from ?_)
  obtain ⟨x4, ex4, H⟩ := bind_some H
  refine go_callS (vs := [aA x1, aI v2, aI x3]) (stk := []) (o1 := (none, x4)) mk_X5_set ss_X9_keep_104 dX9_keep_97 rfl rfl (Nat.le_of_ble_eq_true rfl) (Nat.le_of_ble_eq_true rfl) (ok_X5_set ex4) (show Go M_X9_keep (none, r) 100 [some (aA v0), none, some (aI v2), some (aI v3)] [] x4 from ?_)
  obtain rfl := Option.some.inj H
  exact go_return dX9_keep_100 rfl
def m_X9_keep (v0 : Nat) (v1 : Nat) (v2 : Int32) (v3 : Int32) (h : Hp) : Option Hp :=
  if v3 < 0 then (some h) else if v3 < (2 : Int32) then (if v2 = (0 : Int32) then ((gfR h v0 9 4).bind fun x1 => (alR h x1 24 v3).bind fun x2 => (gfR h v1 7 1).bind fun x3 => (rc h x2 1 (m_X0_copyFrom x2 x3 h)).bind fun x4 => j_X9_keep_81 v0 v2 v3 x4) else if v2 = (1 : Int32) then ((gfR h v0 9 5).bind fun x5 => (alR h x5 25 v3).bind fun x6 => (gfR h v1 7 2).bind fun x7 => (rc h x6 6 (m_X6_copyFrom x6 x7 h)).bind fun x8 => j_X9_keep_81 v0 v2 v3 x8) else (gfR h v0 9 6).bind fun x9 => (alR h x9 26 v3).bind fun x10 => (gfR h v1 7 3).bind fun x11 => (rc h x10 4 (m_X3_copyFrom x10 x11 h)).bind fun x12 => j_X9_keep_81 v0 v2 v3 x12) else some h
set_option maxRecDepth 20000 in
theorem ok_X9_keep {r : Hp} {v0 : Nat} {v1 : Nat} {v2 : Int32} {v3 : Int32} {h : Hp} (H : m_X9_keep v0 v1 v2 v3 h = some r) : Ev M_X9_keep [aA v0, aA v1, aI v2, aI v3] h (none, r) := by
  show Go M_X9_keep (none, r) 0 [some (aA v0), some (aA v1), some (aI v2), some (aI v3)] [] h
  unfold m_X9_keep at H
  refine go_iloadn dX9_keep_0 rfl ?_
  refine go_if_lt (tgt := 9) dX9_keep_1 (by decide) (fun c1 => ?_) (fun c1 => ?_)
  · replace H := (gm_ite H).1 c1
    obtain rfl := Option.some.inj H
    exact go_return dX9_keep_9 rfl
  · replace H := (gm_ite H).2 c1
    refine go_iloadn dX9_keep_4 rfl ?_
    refine go_iconst (v := (2 : Int32)) dX9_keep_5 rfl ?_
    refine go_icmp_lt (tgt := 10) dX9_keep_6 (by decide) (fun c2 => ?_) (fun c2 => ?_)
    · replace H := (gm_ite H).1 c2
      refine go_iloadn dX9_keep_10 rfl ?_
      by_cases c3 : v2 = (0 : Int32)
      · replace H := (gm_ite H).1 c3
        refine go_eqI c3 ?_
        refine go_lookup (tgt := 36) dX9_keep_11 (by decide) rfl (by decide) ?_
        refine go_aloadn dX9_keep_36 rfl ?_
        refine gm_getR fd_X9_31 dX9_keep_37 H (fun x1 H => ?_)
        refine go_iloadn dX9_keep_40 rfl ?_
        refine gm_aald (by decide) dX9_keep_41 H (fun x2 H => ?_)
        refine go_aloadn dX9_keep_42 rfl ?_
        refine gm_getR fd_X9_85 dX9_keep_43 H (fun x3 H => ?_)
        obtain ⟨c4, x4, ex4, H⟩ := gm_rc H
        refine go_callV (vs := [aA x3]) (stk := []) (o1 := (none, x4)) mk_X0_copyFrom sv_X9_keep_60 cl_X0 rfl dX9_keep_46 c4 rfl rfl (Nat.le_of_ble_eq_true rfl) (Nat.le_of_ble_eq_true rfl) (ok_X0_copyFrom ex4) (show Go M_X9_keep (none, r) 49 [some (aA v0), some (aA v1), some (aI v2), some (aI v3)] [] x4 from ?_)
        refine go_goto (tgt := 81) dX9_keep_49 (by decide) ?_
        refine go_mask [true, false, true, true] (loc' := [some (aA v0), none, some (aI v2), some (aI v3)]) rfl ?_
        exact okj_X9_keep_81 v0 v2 v3 x4  H
      · replace H := (gm_ite H).2 c3
        by_cases c5 : v2 = (1 : Int32)
        · replace H := (gm_ite H).1 c5
          refine go_eqI c5 ?_
          refine go_lookup (tgt := 52) dX9_keep_11 (by decide) rfl (by decide) ?_
          refine go_aloadn dX9_keep_52 rfl ?_
          refine gm_getR fd_X9_37 dX9_keep_53 H (fun x5 H => ?_)
          refine go_iloadn dX9_keep_56 rfl ?_
          refine gm_aald (by decide) dX9_keep_57 H (fun x6 H => ?_)
          refine go_aloadn dX9_keep_58 rfl ?_
          refine gm_getR fd_X9_91 dX9_keep_59 H (fun x7 H => ?_)
          obtain ⟨c6, x8, ex8, H⟩ := gm_rc H
          refine go_callV (vs := [aA x7]) (stk := []) (o1 := (none, x8)) mk_X6_copyFrom sv_X9_keep_63 cl_X6 rfl dX9_keep_62 c6 rfl rfl (Nat.le_of_ble_eq_true rfl) (Nat.le_of_ble_eq_true rfl) (ok_X6_copyFrom ex8) (show Go M_X9_keep (none, r) 65 [some (aA v0), some (aA v1), some (aI v2), some (aI v3)] [] x8 from ?_)
          refine go_goto (tgt := 81) dX9_keep_65 (by decide) ?_
          refine go_mask [true, false, true, true] (loc' := [some (aA v0), none, some (aI v2), some (aI v3)]) rfl ?_
          exact okj_X9_keep_81 v0 v2 v3 x8  H
        · replace H := (gm_ite H).2 c5
          refine go_lookup (tgt := 68) (off := 57) dX9_keep_11 (by decide) ((lv_osw c3 (by decide)).trans ((lv_osw c5 (by decide)).trans rfl)) (by decide) ?_
          refine go_aloadn dX9_keep_68 rfl ?_
          refine gm_getR fd_X9_43 dX9_keep_69 H (fun x9 H => ?_)
          refine go_iloadn dX9_keep_72 rfl ?_
          refine gm_aald (by decide) dX9_keep_73 H (fun x10 H => ?_)
          refine go_aloadn dX9_keep_74 rfl ?_
          refine gm_getR fd_X9_94 dX9_keep_75 H (fun x11 H => ?_)
          obtain ⟨c7, x12, ex12, H⟩ := gm_rc H
          refine go_callV (vs := [aA x11]) (stk := []) (o1 := (none, x12)) mk_X3_copyFrom sv_X9_keep_66 cl_X3 rfl dX9_keep_78 c7 rfl rfl (Nat.le_of_ble_eq_true rfl) (Nat.le_of_ble_eq_true rfl) (ok_X3_copyFrom ex12) (show Go M_X9_keep (none, r) 81 [some (aA v0), some (aA v1), some (aI v2), some (aI v3)] [] x12 from ?_)
          refine go_mask [true, false, true, true] (loc' := [some (aA v0), none, some (aI v2), some (aI v3)]) rfl ?_
          exact okj_X9_keep_81 v0 v2 v3 x12  H
    · replace H := (gm_ite H).2 c2
      obtain rfl := Option.some.inj H
      exact go_return dX9_keep_9 rfl
/-! X11_text -/
def m_X11_text (v0 : Nat) (v1 : Int32) (v2 : Int32) (h : Hp) : Option (Int32 × Hp) :=
  (gfR h v0 11 0).bind fun x1 => (rc h x1 9 (m_X9_placeFor x1 v1 v2 h)).bind fun x2 => if ¬ x2 = (-1 : Int32) then ((gfR h v0 11 2).bind fun x3 => (gfR h v0 11 0).bind fun x4 => (gfR h x4 9 0).bind fun x5 => (rc h x3 7 (m_X7_take x3 x5 v1 h)).bind fun x6 => (gfR x6 v0 11 0).bind fun x7 => (gfR x6 x7 9 0).bind fun x8 => (pfI x6 x8 10 1 (0 : Int32)).bind fun hh1 => (gfR hh1 v0 11 0).bind fun x9 => (gfR hh1 v0 11 2).bind fun x10 => (gfI hh1 x10 7 4).bind fun x11 => (pfI hh1 x9 9 1 x11).bind fun hh2 => (gfR hh2 v0 11 0).bind fun x12 => (gfR hh2 v0 11 2).bind fun x13 => (gfI hh2 x13 7 5).bind fun x14 => (pfI hh2 x12 9 2 x14).bind fun hh3 => (gfR hh3 v0 11 2).bind fun x15 => (gfI hh3 x15 7 4).bind fun x16 => if x16 = 0 then ((gfR hh3 v0 11 0).bind fun x17 => (gfR hh3 v0 11 2).bind fun x18 => (rc hh3 x17 9 (m_X9_keep x17 x18 v1 x2 hh3)).bind fun x19 => some (x2, x19)) else some ((-1 : Int32), hh3)) else (gfR h v0 11 0).bind fun x20 => (pfI h x20 9 1 (0 : Int32)).bind fun hh4 => (gfR hh4 v0 11 0).bind fun x21 => (pfI hh4 x21 9 2 (-1 : Int32)).bind fun hh5 => (gfR hh5 v0 11 0).bind fun x22 => (gfR hh5 x22 9 0).bind fun x23 => (pfI hh5 x23 10 1 (0 : Int32)).bind fun hh6 => some ((-2 : Int32), hh6)
set_option maxRecDepth 20000 in
theorem ok_X11_text {r : (Int32 × Hp)} {v0 : Nat} {v1 : Int32} {v2 : Int32} {h : Hp} (H : m_X11_text v0 v1 v2 h = some r) : Ev M_X11_text [aA v0, aI v1, aI v2] h (some (aI r.1), r.2) := by
  show Go M_X11_text (some (aI r.1), r.2) 0 [some (aA v0), some (aI v1), some (aI v2), none] [] h
  unfold m_X11_text at H
  refine go_aloadn dX11_text_0 rfl ?_
  refine gm_getR fd_X11_10 dX11_text_1 H (fun x1 H => ?_)
  refine go_iloadn dX11_text_4 rfl ?_
  refine go_iloadn dX11_text_5 rfl ?_
  obtain ⟨c1, x2, ex2, H⟩ := gm_rc H
  refine go_callV (vs := [aI v1, aI v2]) (stk := []) (o1 := (some (aI x2), h)) mk_X9_placeFor sv_X11_text_66 cl_X9 rfl dX11_text_6 c1 rfl rfl (Nat.le_of_ble_eq_true rfl) (Nat.le_of_ble_eq_true rfl) (ok_X9_placeFor ex2) (show Go M_X11_text (some (aI r.1), r.2) 9 [some (aA v0), some (aI v1), some (aI v2), none] [aI x2] h from ?_)
  refine go_istoren (loc2 := [some (aA v0), some (aI v1), some (aI v2), some (aI x2)]) dX11_text_9 rfl (by decide) rfl ?_
  refine go_iloadn dX11_text_10 rfl ?_
  refine go_iconst (v := (-1 : Int32)) dX11_text_11 rfl ?_
  refine go_icmp_ne (tgt := 45) dX11_text_12 (by decide) (fun c2 => ?_) (fun c2 => ?_)
  · replace H := (gm_ite H).1 c2
    refine go_aloadn dX11_text_45 rfl ?_
    refine gm_getR fd_X11_23 dX11_text_46 H (fun x3 H => ?_)
    refine go_aloadn dX11_text_49 rfl ?_
    refine gm_getR fd_X11_10 dX11_text_50 H (fun x4 H => ?_)
    refine gm_getR fd_X11_48 dX11_text_53 H (fun x5 H => ?_)
    refine go_iloadn dX11_text_56 rfl ?_
    obtain ⟨c3, x6, ex6, H⟩ := gm_rc H
    refine go_callV (vs := [aA x5, aI v1]) (stk := []) (o1 := (none, x6)) mk_X7_take sv_X11_text_76 cl_X7 rfl dX11_text_57 c3 rfl rfl (Nat.le_of_ble_eq_true rfl) (Nat.le_of_ble_eq_true rfl) (ok_X7_take ex6) (show Go M_X11_text (some (aI r.1), r.2) 60 [some (aA v0), some (aI v1), some (aI v2), some (aI x2)] [] x6 from ?_)
    refine go_aloadn dX11_text_60 rfl ?_
    refine gm_getR fd_X11_10 dX11_text_61 H (fun x7 H => ?_)
    refine gm_getR fd_X11_48 dX11_text_64 H (fun x8 H => ?_)
    refine go_iconst (v := (0 : Int32)) dX11_text_67 rfl ?_
    refine gm_putI fd_X11_62 (Or.inl rfl) dX11_text_68 H (fun hh1 H => ?_)
    refine go_aloadn dX11_text_71 rfl ?_
    refine gm_getR fd_X11_10 dX11_text_72 H (fun x9 H => ?_)
    refine go_aloadn dX11_text_75 rfl ?_
    refine gm_getR fd_X11_23 dX11_text_76 H (fun x10 H => ?_)
    refine gm_getI fd_X11_80 dX11_text_79 H (fun x11 H => ?_)
    refine gm_putI fd_X11_70 (Or.inl rfl) dX11_text_82 H (fun hh2 H => ?_)
    refine go_aloadn dX11_text_85 rfl ?_
    refine gm_getR fd_X11_10 dX11_text_86 H (fun x12 H => ?_)
    refine go_aloadn dX11_text_89 rfl ?_
    refine gm_getR fd_X11_23 dX11_text_90 H (fun x13 H => ?_)
    refine gm_getI fd_X11_81 dX11_text_93 H (fun x14 H => ?_)
    refine gm_putI fd_X11_73 (Or.inl rfl) dX11_text_96 H (fun hh3 H => ?_)
    refine go_aloadn dX11_text_99 rfl ?_
    refine gm_getR fd_X11_23 dX11_text_100 H (fun x15 H => ?_)
    refine gm_getI fd_X11_80 dX11_text_103 H (fun x16 H => ?_)
    refine go_if_eq (tgt := 111) dX11_text_106 (by decide) (fun c4 => ?_) (fun c4 => ?_)
    · replace H := (gm_ite H).1 c4
      refine go_aloadn dX11_text_111 rfl ?_
      refine gm_getR fd_X11_10 dX11_text_112 H (fun x17 H => ?_)
      refine go_aloadn dX11_text_115 rfl ?_
      refine gm_getR fd_X11_23 dX11_text_116 H (fun x18 H => ?_)
      refine go_iloadn dX11_text_119 rfl ?_
      refine go_iloadn dX11_text_120 rfl ?_
      obtain ⟨c5, x19, ex19, H⟩ := gm_rc H
      refine go_callV (vs := [aA x18, aI v1, aI x2]) (stk := []) (o1 := (none, x19)) mk_X9_keep sv_X11_text_82 cl_X9 rfl dX11_text_121 c5 rfl rfl (Nat.le_of_ble_eq_true rfl) (Nat.le_of_ble_eq_true rfl) (ok_X9_keep ex19) (show Go M_X11_text (some (aI r.1), r.2) 124 [some (aA v0), some (aI v1), some (aI v2), some (aI x2)] [] x19 from ?_)
      refine go_iloadn dX11_text_124 rfl ?_
      obtain rfl := Option.some.inj H
      exact go_ireturn dX11_text_125 (tyI_int rfl)
    · replace H := (gm_ite H).2 c4
      refine go_iconst (v := (-1 : Int32)) dX11_text_109 rfl ?_
      obtain rfl := Option.some.inj H
      exact go_ireturn dX11_text_110 (tyI_int rfl)
  · replace H := (gm_ite H).2 c2
    refine go_aloadn dX11_text_15 rfl ?_
    refine gm_getR fd_X11_10 dX11_text_16 H (fun x20 H => ?_)
    refine go_iconst (v := (0 : Int32)) dX11_text_19 rfl ?_
    refine gm_putI fd_X11_70 (Or.inl rfl) dX11_text_20 H (fun hh4 H => ?_)
    refine go_aloadn dX11_text_23 rfl ?_
    refine gm_getR fd_X11_10 dX11_text_24 H (fun x21 H => ?_)
    refine go_iconst (v := (-1 : Int32)) dX11_text_27 rfl ?_
    refine gm_putI fd_X11_73 (Or.inl rfl) dX11_text_28 H (fun hh5 H => ?_)
    refine go_aloadn dX11_text_31 rfl ?_
    refine gm_getR fd_X11_10 dX11_text_32 H (fun x22 H => ?_)
    refine gm_getR fd_X11_48 dX11_text_35 H (fun x23 H => ?_)
    refine go_iconst (v := (0 : Int32)) dX11_text_38 rfl ?_
    refine gm_putI fd_X11_62 (Or.inl rfl) dX11_text_39 H (fun hh6 H => ?_)
    refine go_bipush (v := (-2 : Int32)) dX11_text_42 rfl ?_
    obtain rfl := Option.some.inj H
    exact go_ireturn dX11_text_44 (tyI_int rfl)
/-! X12_is -/
def m_X12_is (v0 : Nat) (v1 : Int32) (v2 : Int32) (h : Hp) : Option Int32 :=
  (gfR h v0 12 5).bind fun x1 => (alI h x1 v1).bind fun x2 => (m_X12_in v2 (0 : Int32) (x2 - (1 : Int32)) h).bind fun x3 => (zb x3).bind fun x4 => some x4
set_option maxRecDepth 20000 in
theorem ok_X12_is {r : Int32} {v0 : Nat} {v1 : Int32} {v2 : Int32} {h : Hp} (H : m_X12_is v0 v1 v2 h = some r) : Ev M_X12_is [aA v0, aI v1, aI v2] h (some (aI r), h) := by
  show Go M_X12_is (some (aI r), h) 0 [some (aA v0), some (aI v1), some (aI v2)] [] h
  unfold m_X12_is at H
  refine go_iloadn dX12_is_0 rfl ?_
  refine go_iconst (v := (0 : Int32)) dX12_is_1 rfl ?_
  refine go_aloadn dX12_is_2 rfl ?_
  refine gm_getR fd_X12_23 dX12_is_3 H (fun x1 H => ?_)
  refine go_iloadn dX12_is_6 rfl ?_
  refine gm_iald dX12_is_7 H (fun x2 H => ?_)
  refine go_iconst (v := (1 : Int32)) dX12_is_8 rfl ?_
  refine go_isub dX12_is_9 ?_
  obtain ⟨x3, ex3, H⟩ := bind_some H
  refine go_callS (vs := [aI v2, aI (0 : Int32), aI (x2 - (1 : Int32))]) (stk := []) (o1 := (some (aI x3), h)) mk_X12_in ss_X12_is_72 dX12_is_10 rfl rfl (Nat.le_of_ble_eq_true rfl) (Nat.le_of_ble_eq_true rfl) (ok_X12_in ex3) (show Go M_X12_is (some (aI r), h) 13 [some (aA v0), some (aI v1), some (aI v2)] [aI x3] h from ?_)
  obtain ⟨hz, H⟩ := gm_zb H
  obtain rfl := Option.some.inj H
  exact go_ireturn (x := x3) dX12_is_13 (tyI_bool rfl hz)
/-! X12_see -/
def j_X12_see_28  (s0 : Int32) (h : Hp) : Option Int32 :=
  some s0
set_option maxRecDepth 20000 in
theorem okj_X12_see_28 {r : Int32}  (s0 : Int32) (h : Hp) (H : j_X12_see_28 s0 h = some r) : Go M_X12_see (some (aI r), h) 28 [none] [aI s0] h := by
  unfold j_X12_see_28 at H
  obtain rfl := Option.some.inj H
  exact go_ireturn dX12_see_28 (tyI_int rfl)
def m_X12_see (v0 : Nat) (h : Hp) : Option Int32 :=
  (gfI h v0 12 9).bind fun x1 => (gfI h v0 12 10).bind fun x2 => if x2 ≤ x1 then j_X12_see_28 (-1 : Int32) h else (gfR h v0 12 1).bind fun x3 => (gfI h v0 12 9).bind fun x4 => (alB h x3 x4).bind fun x5 => j_X12_see_28 (x5 &&& (255 : Int32)) h
set_option maxRecDepth 20000 in
theorem ok_X12_see {r : Int32} {v0 : Nat} {h : Hp} (H : m_X12_see v0 h = some r) : Ev M_X12_see [aA v0] h (some (aI r), h) := by
  show Go M_X12_see (some (aI r), h) 0 [some (aA v0)] [] h
  unfold m_X12_see at H
  refine go_aloadn dX12_see_0 rfl ?_
  refine gm_getI fd_X12_80 dX12_see_1 H (fun x1 H => ?_)
  refine go_aloadn dX12_see_4 rfl ?_
  refine gm_getI fd_X12_83 dX12_see_5 H (fun x2 H => ?_)
  refine go_icmp_ge (tgt := 27) dX12_see_8 (by decide) (fun c1 => ?_) (fun c1 => ?_)
  · replace H := (gm_ite H).1 c1
    refine go_iconst (v := (-1 : Int32)) dX12_see_27 rfl ?_
    refine go_mask [false] (loc' := [none]) rfl ?_
    exact okj_X12_see_28 (-1 : Int32) h  H
  · replace H := (gm_ite H).2 c1
    refine go_aloadn dX12_see_11 rfl ?_
    refine gm_getR fd_X12_7 dX12_see_12 H (fun x3 H => ?_)
    refine go_aloadn dX12_see_15 rfl ?_
    refine gm_getI fd_X12_80 dX12_see_16 H (fun x4 H => ?_)
    refine gm_bald dX12_see_19 H (fun x5 H => ?_)
    refine go_sipush (v := (255 : Int32)) dX12_see_20 rfl ?_
    refine go_iand dX12_see_23 ?_
    refine go_goto (tgt := 28) dX12_see_24 (by decide) ?_
    refine go_mask [false] (loc' := [none]) rfl ?_
    exact okj_X12_see_28 (x5 &&& (255 : Int32)) h  H
/-! X12_token -/
def j_X12_token_18 (v0 : Nat)  (h : Hp) (K31 : Hp → Option Hp) (k : Hp → Option Hp) : Option Hp :=
  (gfI h v0 12 9).bind fun x1 => (pfI h v0 12 9 (x1 + (1 : Int32))).bind fun hh1 => k hh1
set_option maxRecDepth 20000 in
theorem okj_X12_token_18 {r : Hp} (v0 : Nat)  (h : Hp) (K31 : Hp → Option Hp) (k : Hp → Option Hp) (HK31 : ∀   (hq : Hp), K31 hq = some r → Go M_X12_token (none, r) 31 [some (aA v0), none, none] [] hq) (Hk : ∀  (hq : Hp), k hq = some r → Go M_X12_token (none, r) 0 [some (aA v0), none, none] [] hq) (H : j_X12_token_18 v0 h K31 k = some r) : Go M_X12_token (none, r) 18 [some (aA v0), none, none] [] h := by
  unfold j_X12_token_18 at H
  refine go_aloadn dX12_token_18 rfl ?_
  refine go_dupA dX12_token_19 ?_
  refine gm_getI fd_X12_80 dX12_token_20 H (fun x1 H => ?_)
  refine go_iconst (v := (1 : Int32)) dX12_token_23 rfl ?_
  refine go_iadd dX12_token_24 ?_
  refine gm_putI fd_X12_80 (Or.inl rfl) dX12_token_25 H (fun hh1 H => ?_)
  refine go_goto (tgt := 0) dX12_token_28 (by decide) ?_
  exact Hk hh1 H
def b_X12_token_0 (v0 : Nat) (K31 : Hp → Option Hp) (k : Hp → Option Hp)  (h : Hp) : Option Hp :=
  (rc h v0 12 (m_X12_see v0 h)).bind fun x1 => if x1 = (10 : Int32) then j_X12_token_18 v0 h K31 k else (rc h v0 12 (m_X12_see v0 h)).bind fun x2 => if ¬ x2 = (32 : Int32) then K31 h else j_X12_token_18 v0 h K31 k
set_option maxRecDepth 20000 in
theorem okb_X12_token_0 {r : Hp} (v0 : Nat) (K31 : Hp → Option Hp) (k : Hp → Option Hp)  (h : Hp) (HK31 : ∀   (hq : Hp), K31 hq = some r → Go M_X12_token (none, r) 31 [some (aA v0), none, none] [] hq) (Hk : ∀  (hq : Hp), k hq = some r → Go M_X12_token (none, r) 0 [some (aA v0), none, none] [] hq) (H : b_X12_token_0 v0 K31 k h = some r) : Go M_X12_token (none, r) 0 [some (aA v0), none, none] [] h := by
  unfold b_X12_token_0 at H
  refine go_aloadn dX12_token_0 rfl ?_
  obtain ⟨c1, x1, ex1, H⟩ := gm_rc H
  refine go_callV (vs := []) (stk := []) (o1 := (some (aI x1), h)) mk_X12_see sv_X12_token_86 cl_X12 rfl dX12_token_1 c1 rfl rfl (Nat.le_of_ble_eq_true rfl) (Nat.le_of_ble_eq_true rfl) (ok_X12_see ex1) (show Go M_X12_token (none, r) 4 [some (aA v0), none, none] [aI x1] h from ?_)
  refine go_bipush (v := (10 : Int32)) dX12_token_4 rfl ?_
  refine go_icmp_eq (tgt := 18) dX12_token_6 (by decide) (fun c2 => ?_) (fun c2 => ?_)
  · replace H := (gm_ite H).1 c2
    exact okj_X12_token_18 v0 h K31 k HK31 Hk H
  · replace H := (gm_ite H).2 c2
    refine go_aloadn dX12_token_9 rfl ?_
    obtain ⟨c3, x2, ex2, H⟩ := gm_rc H
    refine go_callV (vs := []) (stk := []) (o1 := (some (aI x2), h)) mk_X12_see sv_X12_token_86 cl_X12 rfl dX12_token_10 c3 rfl rfl (Nat.le_of_ble_eq_true rfl) (Nat.le_of_ble_eq_true rfl) (ok_X12_see ex2) (show Go M_X12_token (none, r) 13 [some (aA v0), none, none] [aI x2] h from ?_)
    refine go_bipush (v := (32 : Int32)) dX12_token_13 rfl ?_
    refine go_icmp_ne (tgt := 31) dX12_token_15 (by decide) (fun c4 => ?_) (fun c4 => ?_)
    · replace H := (gm_ite H).1 c4
      exact HK31 h H
    · replace H := (gm_ite H).2 c4
      exact okj_X12_token_18 v0 h K31 k HK31 Hk H
def l_X12_token_0 (v0 : Nat) (K31 : Hp → Option Hp)  (h : Hp) : Option Hp := loopK FUEL (fun (k : Hp → Option Hp) (s : Hp) => b_X12_token_0 v0 K31 (fun hq => k hq) s) h
theorem okl_X12_token_0 {r : Hp} (v0 : Nat) (K31 : Hp → Option Hp)  (h : Hp) (HK31 : ∀   (hq : Hp), K31 hq = some r → Go M_X12_token (none, r) 31 [some (aA v0), none, none] [] hq) (H : l_X12_token_0 v0 K31 h = some r) : Go M_X12_token (none, r) 0 [some (aA v0), none, none] [] h := by
  unfold l_X12_token_0 at H
  exact go_loop (σ := Hp) (body := (fun (k : Hp → Option Hp) (s : Hp) => b_X12_token_0 v0 K31 (fun hq => k hq) s)) (fun s => [some (aA v0), none, none]) (fun s => s) (fun k s Hk H => okb_X12_token_0 v0 K31 (fun hq => k hq) s HK31 (fun hq H => Hk hq H) H) FUEL h H
def j_X12_token_263  (s0 : Nat) (s1 : Int32) (h : Hp) : Option Hp :=
  (pfI h s0 12 12 s1).bind fun hh1 => some hh1
set_option maxRecDepth 20000 in
theorem okj_X12_token_263 {r : Hp}  (s0 : Nat) (s1 : Int32) (h : Hp) (H : j_X12_token_263 s0 s1 h = some r) : Go M_X12_token (none, r) 263 [none, none, none] [aI s1, aA s0] h := by
  unfold j_X12_token_263 at H
  refine gm_putI fd_X12_97 (Or.inl rfl) dX12_token_263 H (fun hh1 H => ?_)
  obtain rfl := Option.some.inj H
  exact go_return dX12_token_266 rfl
def j_X12_token_205 (v0 : Nat) (v2 : Int32) (s0 : Nat) (s1 : Int32) (h : Hp) (K224 : Int32 → Hp → Option Hp) (k : Int32 → Hp → Option Hp) : Option Hp :=
  (pfI h s0 12 13 s1).bind fun hh1 => (gfI hh1 v0 12 9).bind fun x1 => (pfI hh1 v0 12 9 (x1 + (1 : Int32))).bind fun hh2 => k (v2 + (1 : Int32)) hh2
set_option maxRecDepth 20000 in
theorem okj_X12_token_205 {r : Hp} (v0 : Nat) (v2 : Int32) (s0 : Nat) (s1 : Int32) (h : Hp) (K224 : Int32 → Hp → Option Hp) (k : Int32 → Hp → Option Hp) (HK224 : ∀ (v2q : Int32)  (hq : Hp), K224 v2q hq = some r → Go M_X12_token (none, r) 224 [some (aA v0), none, some (aI v2q)] [] hq) (Hk : ∀ (v2q : Int32) (hq : Hp), k v2q hq = some r → Go M_X12_token (none, r) 163 [some (aA v0), none, some (aI v2q)] [] hq) (H : j_X12_token_205 v0 v2 s0 s1 h K224 k = some r) : Go M_X12_token (none, r) 205 [some (aA v0), none, some (aI v2)] [aI s1, aA s0] h := by
  unfold j_X12_token_205 at H
  refine gm_putI fd_X12_100 (Or.inl rfl) dX12_token_205 H (fun hh1 H => ?_)
  refine go_aloadn dX12_token_208 rfl ?_
  refine go_dupA dX12_token_209 ?_
  refine gm_getI fd_X12_80 dX12_token_210 H (fun x1 H => ?_)
  refine go_iconst (v := (1 : Int32)) dX12_token_213 rfl ?_
  refine go_iadd dX12_token_214 ?_
  refine gm_putI fd_X12_80 (Or.inl rfl) dX12_token_215 H (fun hh2 H => ?_)
  refine go_iinc (v := (v2 + (1 : Int32))) (loc2 := [some (aA v0), none, some (aI (v2 + (1 : Int32)))]) dX12_token_218 rfl rfl (by decide) rfl ?_
  refine go_goto (tgt := 163) dX12_token_221 (by decide) ?_
  exact Hk (v2 + (1 : Int32)) hh2 H
def b_X12_token_163 (v0 : Nat) (K224 : Int32 → Hp → Option Hp) (k : Int32 → Hp → Option Hp) (v2 : Int32) (h : Hp) : Option Hp :=
  (rc h v0 12 (m_X12_see v0 h)).bind fun x1 => (m_X12_in x1 (48 : Int32) (57 : Int32) h).bind fun x2 => if x2 = 0 then K224 v2 h else if (2 : Int32) ≤ v2 then ((gfI h v0 12 13).bind fun x3 => j_X12_token_205 v0 v2 v0 x3 h K224 k) else (gfI h v0 12 13).bind fun x4 => (rc h v0 12 (m_X12_see v0 h)).bind fun x5 => j_X12_token_205 v0 v2 v0 ((((10 : Int32) * x4) + x5) - (48 : Int32)) h K224 k
set_option maxRecDepth 20000 in
theorem okb_X12_token_163 {r : Hp} (v0 : Nat) (K224 : Int32 → Hp → Option Hp) (k : Int32 → Hp → Option Hp) (v2 : Int32) (h : Hp) (HK224 : ∀ (v2q : Int32)  (hq : Hp), K224 v2q hq = some r → Go M_X12_token (none, r) 224 [some (aA v0), none, some (aI v2q)] [] hq) (Hk : ∀ (v2q : Int32) (hq : Hp), k v2q hq = some r → Go M_X12_token (none, r) 163 [some (aA v0), none, some (aI v2q)] [] hq) (H : b_X12_token_163 v0 K224 k v2 h = some r) : Go M_X12_token (none, r) 163 [some (aA v0), none, some (aI v2)] [] h := by
  unfold b_X12_token_163 at H
  refine go_aloadn dX12_token_163 rfl ?_
  obtain ⟨c1, x1, ex1, H⟩ := gm_rc H
  refine go_callV (vs := []) (stk := []) (o1 := (some (aI x1), h)) mk_X12_see sv_X12_token_86 cl_X12 rfl dX12_token_164 c1 rfl rfl (Nat.le_of_ble_eq_true rfl) (Nat.le_of_ble_eq_true rfl) (ok_X12_see ex1) (show Go M_X12_token (none, r) 167 [some (aA v0), none, some (aI v2)] [aI x1] h from ?_)
  refine go_bipush (v := (48 : Int32)) dX12_token_167 rfl ?_
  refine go_bipush (v := (57 : Int32)) dX12_token_169 rfl ?_
  obtain ⟨x2, ex2, H⟩ := bind_some H
  refine go_callS (vs := [aI x1, aI (48 : Int32), aI (57 : Int32)]) (stk := []) (o1 := (some (aI x2), h)) mk_X12_in ss_X12_token_72 dX12_token_171 rfl rfl (Nat.le_of_ble_eq_true rfl) (Nat.le_of_ble_eq_true rfl) (ok_X12_in ex2) (show Go M_X12_token (none, r) 174 [some (aA v0), none, some (aI v2)] [aI x2] h from ?_)
  refine go_if_eq (tgt := 224) dX12_token_174 (by decide) (fun c3 => ?_) (fun c3 => ?_)
  · replace H := (gm_ite H).1 c3
    exact HK224 v2 h H
  · replace H := (gm_ite H).2 c3
    refine go_aloadn dX12_token_177 rfl ?_
    refine go_iloadn dX12_token_178 rfl ?_
    refine go_iconst (v := (2 : Int32)) dX12_token_179 rfl ?_
    refine go_icmp_ge (tgt := 201) dX12_token_180 (by decide) (fun c4 => ?_) (fun c4 => ?_)
    · replace H := (gm_ite H).1 c4
      refine go_aloadn dX12_token_201 rfl ?_
      refine gm_getI fd_X12_100 dX12_token_202 H (fun x3 H => ?_)
      exact okj_X12_token_205 v0 v2 v0 x3 h K224 k HK224 Hk H
    · replace H := (gm_ite H).2 c4
      refine go_bipush (v := (10 : Int32)) dX12_token_183 rfl ?_
      refine go_aloadn dX12_token_185 rfl ?_
      refine gm_getI fd_X12_100 dX12_token_186 H (fun x4 H => ?_)
      refine go_imul dX12_token_189 ?_
      refine go_aloadn dX12_token_190 rfl ?_
      obtain ⟨c5, x5, ex5, H⟩ := gm_rc H
      refine go_callV (vs := []) (stk := [aI ((10 : Int32) * x4), aA v0]) (o1 := (some (aI x5), h)) mk_X12_see sv_X12_token_86 cl_X12 rfl dX12_token_191 c5 rfl rfl (Nat.le_of_ble_eq_true rfl) (Nat.le_of_ble_eq_true rfl) (ok_X12_see ex5) (show Go M_X12_token (none, r) 194 [some (aA v0), none, some (aI v2)] [aI x5, aI ((10 : Int32) * x4), aA v0] h from ?_)
      refine go_iadd dX12_token_194 ?_
      refine go_bipush (v := (48 : Int32)) dX12_token_195 rfl ?_
      refine go_isub dX12_token_197 ?_
      refine go_goto (tgt := 205) dX12_token_198 (by decide) ?_
      exact okj_X12_token_205 v0 v2 v0 ((((10 : Int32) * x4) + x5) - (48 : Int32)) h K224 k HK224 Hk H
def l_X12_token_163 (v0 : Nat) (K224 : Int32 → Hp → Option Hp) (v2 : Int32) (h : Hp) : Option Hp := loopK FUEL (fun (k : Int32 × Hp → Option Hp) (s : Int32 × Hp) => b_X12_token_163 v0 K224 (fun v2q hq => k (v2q, hq)) s.1 s.2) (v2, h)
theorem okl_X12_token_163 {r : Hp} (v0 : Nat) (K224 : Int32 → Hp → Option Hp) (v2 : Int32) (h : Hp) (HK224 : ∀ (v2q : Int32)  (hq : Hp), K224 v2q hq = some r → Go M_X12_token (none, r) 224 [some (aA v0), none, some (aI v2q)] [] hq) (H : l_X12_token_163 v0 K224 v2 h = some r) : Go M_X12_token (none, r) 163 [some (aA v0), none, some (aI v2)] [] h := by
  unfold l_X12_token_163 at H
  exact go_loop (σ := Int32 × Hp) (body := (fun (k : Int32 × Hp → Option Hp) (s : Int32 × Hp) => b_X12_token_163 v0 K224 (fun v2q hq => k (v2q, hq)) s.1 s.2)) (fun s => [some (aA v0), none, some (aI s.1)]) (fun s => s.2) (fun k s Hk H => okb_X12_token_163 v0 K224 (fun v2q hq => k (v2q, hq)) s.1 s.2 HK224 (fun v2q hq H => Hk (v2q, hq) H) H) FUEL (v2, h) H
def j_X12_token_235  (s0 : Nat) (s1 : Int32) (h : Hp) : Option Hp :=
  (pfI h s0 12 12 s1).bind fun hh1 => some hh1
set_option maxRecDepth 20000 in
theorem okj_X12_token_235 {r : Hp}  (s0 : Nat) (s1 : Int32) (h : Hp) (H : j_X12_token_235 s0 s1 h = some r) : Go M_X12_token (none, r) 235 [none, none, none] [aI s1, aA s0] h := by
  unfold j_X12_token_235 at H
  refine gm_putI fd_X12_97 (Or.inl rfl) dX12_token_235 H (fun hh1 H => ?_)
  refine go_goto (tgt := 266) dX12_token_238 (by decide) ?_
  obtain rfl := Option.some.inj H
  exact go_return dX12_token_266 rfl
def j_X12_token_224 (v0 : Nat) (v2 : Int32)  (h : Hp) : Option Hp :=
  j_X12_token_235 v0 (if v2 ≤ (2 : Int32) then (3 : Int32) else (1 : Int32)) h
set_option maxRecDepth 20000 in
theorem okj_X12_token_224 {r : Hp} (v0 : Nat) (v2 : Int32)  (h : Hp) (H : j_X12_token_224 v0 v2 h = some r) : Go M_X12_token (none, r) 224 [some (aA v0), none, some (aI v2)] [] h := by
  unfold j_X12_token_224 at H
  refine go_aloadn dX12_token_224 rfl ?_
  refine go_iloadn dX12_token_225 rfl ?_
  refine go_iconst (v := (2 : Int32)) dX12_token_226 rfl ?_
  refine go_icmp_le (tgt := 234) dX12_token_227 (by decide) (fun c1 => ?_) (fun c1 => ?_)
  · rw [if_pos c1] at H
    refine go_iconst (v := (3 : Int32)) dX12_token_234 rfl ?_
    refine go_mask [false, false, false] (loc' := [none, none, none]) rfl ?_
    exact okj_X12_token_235 v0 (3 : Int32) h  H
  · rw [if_neg c1] at H
    refine go_iconst (v := (1 : Int32)) dX12_token_230 rfl ?_
    refine go_goto (tgt := 235) dX12_token_231 (by decide) ?_
    refine go_mask [false, false, false] (loc' := [none, none, none]) rfl ?_
    exact okj_X12_token_235 v0 (1 : Int32) h  H
def b_X12_token_74 (v0 : Nat) (K121 : Int32 → Hp → Option Hp) (k : Int32 → Hp → Option Hp) (v2 : Int32) (h : Hp) : Option Hp :=
  (rc h v0 12 (m_X12_see v0 h)).bind fun x1 => (m_X12_in x1 (97 : Int32) (122 : Int32) h).bind fun x2 => if x2 = 0 then K121 v2 h else (gfJ h v0 12 14).bind fun x3 => (rc h v0 12 (m_X12_see v0 h)).bind fun x4 => (pfJ h v0 12 14 ((lshlF x3 (8 : Int32)) ||| (Int32.toInt64 x4))).bind fun hh1 => (gfI hh1 v0 12 9).bind fun x5 => (pfI hh1 v0 12 9 (x5 + (1 : Int32))).bind fun hh2 => k (v2 + (1 : Int32)) hh2
set_option maxRecDepth 20000 in
theorem okb_X12_token_74 {r : Hp} (v0 : Nat) (K121 : Int32 → Hp → Option Hp) (k : Int32 → Hp → Option Hp) (v2 : Int32) (h : Hp) (HK121 : ∀ (v2q : Int32)  (hq : Hp), K121 v2q hq = some r → Go M_X12_token (none, r) 121 [some (aA v0), none, some (aI v2q)] [] hq) (Hk : ∀ (v2q : Int32) (hq : Hp), k v2q hq = some r → Go M_X12_token (none, r) 74 [some (aA v0), none, some (aI v2q)] [] hq) (H : b_X12_token_74 v0 K121 k v2 h = some r) : Go M_X12_token (none, r) 74 [some (aA v0), none, some (aI v2)] [] h := by
  unfold b_X12_token_74 at H
  refine go_aloadn dX12_token_74 rfl ?_
  obtain ⟨c1, x1, ex1, H⟩ := gm_rc H
  refine go_callV (vs := []) (stk := []) (o1 := (some (aI x1), h)) mk_X12_see sv_X12_token_86 cl_X12 rfl dX12_token_75 c1 rfl rfl (Nat.le_of_ble_eq_true rfl) (Nat.le_of_ble_eq_true rfl) (ok_X12_see ex1) (show Go M_X12_token (none, r) 78 [some (aA v0), none, some (aI v2)] [aI x1] h from ?_)
  refine go_bipush (v := (97 : Int32)) dX12_token_78 rfl ?_
  refine go_bipush (v := (122 : Int32)) dX12_token_80 rfl ?_
  obtain ⟨x2, ex2, H⟩ := bind_some H
  refine go_callS (vs := [aI x1, aI (97 : Int32), aI (122 : Int32)]) (stk := []) (o1 := (some (aI x2), h)) mk_X12_in ss_X12_token_72 dX12_token_82 rfl rfl (Nat.le_of_ble_eq_true rfl) (Nat.le_of_ble_eq_true rfl) (ok_X12_in ex2) (show Go M_X12_token (none, r) 85 [some (aA v0), none, some (aI v2)] [aI x2] h from ?_)
  refine go_if_eq (tgt := 121) dX12_token_85 (by decide) (fun c3 => ?_) (fun c3 => ?_)
  · replace H := (gm_ite H).1 c3
    exact HK121 v2 h H
  · replace H := (gm_ite H).2 c3
    refine go_aloadn dX12_token_88 rfl ?_
    refine go_aloadn dX12_token_89 rfl ?_
    refine gm_getJ fd_X12_93 dX12_token_90 H (fun x3 H => ?_)
    refine go_bipush (v := (8 : Int32)) dX12_token_93 rfl ?_
    refine go_lshl dX12_token_95 ?_
    refine go_aloadn dX12_token_96 rfl ?_
    obtain ⟨c4, x4, ex4, H⟩ := gm_rc H
    refine go_callV (vs := []) (stk := [aL (lshlF x3 (8 : Int32)), aA v0]) (o1 := (some (aI x4), h)) mk_X12_see sv_X12_token_86 cl_X12 rfl dX12_token_97 c4 rfl rfl (Nat.le_of_ble_eq_true rfl) (Nat.le_of_ble_eq_true rfl) (ok_X12_see ex4) (show Go M_X12_token (none, r) 100 [some (aA v0), none, some (aI v2)] [aI x4, aL (lshlF x3 (8 : Int32)), aA v0] h from ?_)
    refine go_i2l dX12_token_100 ?_
    refine go_lor dX12_token_101 ?_
    refine gm_putJ fd_X12_93 (Or.inl rfl) dX12_token_102 H (fun hh1 H => ?_)
    refine go_aloadn dX12_token_105 rfl ?_
    refine go_dupA dX12_token_106 ?_
    refine gm_getI fd_X12_80 dX12_token_107 H (fun x5 H => ?_)
    refine go_iconst (v := (1 : Int32)) dX12_token_110 rfl ?_
    refine go_iadd dX12_token_111 ?_
    refine gm_putI fd_X12_80 (Or.inl rfl) dX12_token_112 H (fun hh2 H => ?_)
    refine go_iinc (v := (v2 + (1 : Int32))) (loc2 := [some (aA v0), none, some (aI (v2 + (1 : Int32)))]) dX12_token_115 rfl rfl (by decide) rfl ?_
    refine go_goto (tgt := 74) dX12_token_118 (by decide) ?_
    exact Hk (v2 + (1 : Int32)) hh2 H
def l_X12_token_74 (v0 : Nat) (K121 : Int32 → Hp → Option Hp) (v2 : Int32) (h : Hp) : Option Hp := loopK FUEL (fun (k : Int32 × Hp → Option Hp) (s : Int32 × Hp) => b_X12_token_74 v0 K121 (fun v2q hq => k (v2q, hq)) s.1 s.2) (v2, h)
theorem okl_X12_token_74 {r : Hp} (v0 : Nat) (K121 : Int32 → Hp → Option Hp) (v2 : Int32) (h : Hp) (HK121 : ∀ (v2q : Int32)  (hq : Hp), K121 v2q hq = some r → Go M_X12_token (none, r) 121 [some (aA v0), none, some (aI v2q)] [] hq) (H : l_X12_token_74 v0 K121 v2 h = some r) : Go M_X12_token (none, r) 74 [some (aA v0), none, some (aI v2)] [] h := by
  unfold l_X12_token_74 at H
  exact go_loop (σ := Int32 × Hp) (body := (fun (k : Int32 × Hp → Option Hp) (s : Int32 × Hp) => b_X12_token_74 v0 K121 (fun v2q hq => k (v2q, hq)) s.1 s.2)) (fun s => [some (aA v0), none, some (aI s.1)]) (fun s => s.2) (fun k s Hk H => okb_X12_token_74 v0 K121 (fun v2q hq => k (v2q, hq)) s.1 s.2 HK121 (fun v2q hq H => Hk (v2q, hq) H) H) FUEL (v2, h) H
def j_X12_token_136 (v0 : Nat) (s0 : Nat) (s1 : Int64) (h : Hp) : Option Hp :=
  (pfJ h s0 12 14 s1).bind fun hh1 => (pfI hh1 v0 12 12 (2 : Int32)).bind fun hh2 => some hh2
set_option maxRecDepth 20000 in
theorem okj_X12_token_136 {r : Hp} (v0 : Nat) (s0 : Nat) (s1 : Int64) (h : Hp) (H : j_X12_token_136 v0 s0 s1 h = some r) : Go M_X12_token (none, r) 136 [some (aA v0), none, none] [aL s1, aA s0] h := by
  unfold j_X12_token_136 at H
  refine gm_putJ fd_X12_93 (Or.inl rfl) dX12_token_136 H (fun hh1 H => ?_)
  refine go_aloadn dX12_token_139 rfl ?_
  refine go_iconst (v := (2 : Int32)) dX12_token_140 rfl ?_
  refine gm_putI fd_X12_97 (Or.inl rfl) dX12_token_141 H (fun hh2 H => ?_)
  refine go_goto (tgt := 266) dX12_token_144 (by decide) ?_
  obtain rfl := Option.some.inj H
  exact go_return dX12_token_266 rfl
def j_X12_token_121 (v0 : Nat) (v2 : Int32)  (h : Hp) : Option Hp :=
  if v2 ≤ (8 : Int32) then ((gfJ h v0 12 14).bind fun x1 => j_X12_token_136 v0 v0 x1 h) else j_X12_token_136 v0 v0 (0 : Int64) h
set_option maxRecDepth 20000 in
theorem okj_X12_token_121 {r : Hp} (v0 : Nat) (v2 : Int32)  (h : Hp) (H : j_X12_token_121 v0 v2 h = some r) : Go M_X12_token (none, r) 121 [some (aA v0), none, some (aI v2)] [] h := by
  unfold j_X12_token_121 at H
  refine go_aloadn dX12_token_121 rfl ?_
  refine go_iloadn dX12_token_122 rfl ?_
  refine go_bipush (v := (8 : Int32)) dX12_token_123 rfl ?_
  refine go_icmp_le (tgt := 132) dX12_token_125 (by decide) (fun c1 => ?_) (fun c1 => ?_)
  · replace H := (gm_ite H).1 c1
    refine go_aloadn dX12_token_132 rfl ?_
    refine gm_getJ fd_X12_93 dX12_token_133 H (fun x1 H => ?_)
    refine go_mask [true, false, false] (loc' := [some (aA v0), none, none]) rfl ?_
    exact okj_X12_token_136 v0 v0 x1 h  H
  · replace H := (gm_ite H).2 c1
    refine go_lconst (v := (0 : Int64)) dX12_token_128 rfl ?_
    refine go_goto (tgt := 136) dX12_token_129 (by decide) ?_
    refine go_mask [true, false, false] (loc' := [some (aA v0), none, none]) rfl ?_
    exact okj_X12_token_136 v0 v0 (0 : Int64) h  H
def j_X12_token_31 (v0 : Nat)  (h : Hp) : Option Hp :=
  (gfI h v0 12 9).bind fun x1 => (pfI h v0 12 11 x1).bind fun hh1 => (rc hh1 v0 12 (m_X12_see v0 hh1)).bind fun x2 => (pfJ hh1 v0 12 14 (0 : Int64)).bind fun hh2 => if 0 ≤ x2 then ((m_X12_in x2 (97 : Int32) (122 : Int32) hh2).bind fun x3 => if x3 = 0 then ((m_X12_in x2 (48 : Int32) (57 : Int32) hh2).bind fun x4 => if x4 = 0 then ((gfI hh2 v0 12 9).bind fun x5 => (pfI hh2 v0 12 9 (x5 + (1 : Int32))).bind fun hh3 => j_X12_token_263 v0 (if ¬ x2 = (59 : Int32) then (1 : Int32) else (4 : Int32)) hh3) else (pfI hh2 v0 12 13 (0 : Int32)).bind fun hh4 => l_X12_token_163 v0 (fun a6_2 hz6 => j_X12_token_224 v0 a6_2 hz6) (0 : Int32) hh4) else l_X12_token_74 v0 (fun a7_2 hz7 => j_X12_token_121 v0 a7_2 hz7) (0 : Int32) hh2) else (pfI hh2 v0 12 12 (0 : Int32)).bind fun hh5 => some hh5
set_option maxRecDepth 20000 in
theorem okj_X12_token_31 {r : Hp} (v0 : Nat)  (h : Hp) (H : j_X12_token_31 v0 h = some r) : Go M_X12_token (none, r) 31 [some (aA v0), none, none] [] h := by
  unfold j_X12_token_31 at H
  refine go_aloadn dX12_token_31 rfl ?_
  refine go_aloadn dX12_token_32 rfl ?_
  refine gm_getI fd_X12_80 dX12_token_33 H (fun x1 H => ?_)
  refine gm_putI fd_X12_90 (Or.inl rfl) dX12_token_36 H (fun hh1 H => ?_)
  refine go_aloadn dX12_token_39 rfl ?_
  obtain ⟨c1, x2, ex2, H⟩ := gm_rc H
  refine go_callV (vs := []) (stk := []) (o1 := (some (aI x2), hh1)) mk_X12_see sv_X12_token_86 cl_X12 rfl dX12_token_40 c1 rfl rfl (Nat.le_of_ble_eq_true rfl) (Nat.le_of_ble_eq_true rfl) (ok_X12_see ex2) (show Go M_X12_token (none, r) 43 [some (aA v0), none, none] [aI x2] hh1 from ?_)
  refine go_istoren (loc2 := [some (aA v0), some (aI x2), none]) dX12_token_43 rfl (by decide) rfl ?_
  refine go_aloadn dX12_token_44 rfl ?_
  refine go_lconst (v := (0 : Int64)) dX12_token_45 rfl ?_
  refine gm_putJ fd_X12_93 (Or.inl rfl) dX12_token_46 H (fun hh2 H => ?_)
  refine go_iconst (v := (0 : Int32)) dX12_token_49 rfl ?_
  refine go_istoren (loc2 := [some (aA v0), some (aI x2), some (aI (0 : Int32))]) dX12_token_50 rfl (by decide) rfl ?_
  refine go_iloadn dX12_token_51 rfl ?_
  refine go_if_ge (tgt := 63) dX12_token_52 (by decide) (fun c2 => ?_) (fun c2 => ?_)
  · replace H := (gm_ite H).1 c2
    refine go_iloadn dX12_token_63 rfl ?_
    refine go_bipush (v := (97 : Int32)) dX12_token_64 rfl ?_
    refine go_bipush (v := (122 : Int32)) dX12_token_66 rfl ?_
    obtain ⟨x3, ex3, H⟩ := bind_some H
    refine go_callS (vs := [aI x2, aI (97 : Int32), aI (122 : Int32)]) (stk := []) (o1 := (some (aI x3), hh2)) mk_X12_in ss_X12_token_72 dX12_token_68 rfl rfl (Nat.le_of_ble_eq_true rfl) (Nat.le_of_ble_eq_true rfl) (ok_X12_in ex3) (show Go M_X12_token (none, r) 71 [some (aA v0), some (aI x2), some (aI (0 : Int32))] [aI x3] hh2 from ?_)
    refine go_if_eq (tgt := 147) dX12_token_71 (by decide) (fun c4 => ?_) (fun c4 => ?_)
    · replace H := (gm_ite H).1 c4
      refine go_iloadn dX12_token_147 rfl ?_
      refine go_bipush (v := (48 : Int32)) dX12_token_148 rfl ?_
      refine go_bipush (v := (57 : Int32)) dX12_token_150 rfl ?_
      obtain ⟨x4, ex4, H⟩ := bind_some H
      refine go_callS (vs := [aI x2, aI (48 : Int32), aI (57 : Int32)]) (stk := []) (o1 := (some (aI x4), hh2)) mk_X12_in ss_X12_token_72 dX12_token_152 rfl rfl (Nat.le_of_ble_eq_true rfl) (Nat.le_of_ble_eq_true rfl) (ok_X12_in ex4) (show Go M_X12_token (none, r) 155 [some (aA v0), some (aI x2), some (aI (0 : Int32))] [aI x4] hh2 from ?_)
      refine go_if_eq (tgt := 241) dX12_token_155 (by decide) (fun c6 => ?_) (fun c6 => ?_)
      · replace H := (gm_ite H).1 c6
        refine go_aloadn dX12_token_241 rfl ?_
        refine go_dupA dX12_token_242 ?_
        refine gm_getI fd_X12_80 dX12_token_243 H (fun x5 H => ?_)
        refine go_iconst (v := (1 : Int32)) dX12_token_246 rfl ?_
        refine go_iadd dX12_token_247 ?_
        refine gm_putI fd_X12_80 (Or.inl rfl) dX12_token_248 H (fun hh3 H => ?_)
        refine go_aloadn dX12_token_251 rfl ?_
        refine go_iloadn dX12_token_252 rfl ?_
        refine go_bipush (v := (59 : Int32)) dX12_token_253 rfl ?_
        refine go_icmp_ne (tgt := 262) dX12_token_255 (by decide) (fun c7 => ?_) (fun c7 => ?_)
        · rw [if_pos c7] at H
          refine go_iconst (v := (1 : Int32)) dX12_token_262 rfl ?_
          refine go_mask [false, false, false] (loc' := [none, none, none]) rfl ?_
          exact okj_X12_token_263 v0 (1 : Int32) hh3  H
        · rw [if_neg c7] at H
          refine go_iconst (v := (4 : Int32)) dX12_token_258 rfl ?_
          refine go_goto (tgt := 263) dX12_token_259 (by decide) ?_
          refine go_mask [false, false, false] (loc' := [none, none, none]) rfl ?_
          exact okj_X12_token_263 v0 (4 : Int32) hh3  H
      · replace H := (gm_ite H).2 c6
        refine go_aloadn dX12_token_158 rfl ?_
        refine go_iconst (v := (0 : Int32)) dX12_token_159 rfl ?_
        refine gm_putI fd_X12_100 (Or.inl rfl) dX12_token_160 H (fun hh4 H => ?_)
        refine go_mask [true, false, true] (loc' := [some (aA v0), none, some (aI (0 : Int32))]) rfl ?_
        refine okl_X12_token_163 v0 (fun a6_2 hz6 => j_X12_token_224 v0 a6_2 hz6) (0 : Int32) hh4 ?_ H
        · intro a6_2 hz6 H
          exact okj_X12_token_224 v0 a6_2 hz6  H
    · replace H := (gm_ite H).2 c4
      refine go_mask [true, false, true] (loc' := [some (aA v0), none, some (aI (0 : Int32))]) rfl ?_
      refine okl_X12_token_74 v0 (fun a7_2 hz7 => j_X12_token_121 v0 a7_2 hz7) (0 : Int32) hh2 ?_ H
      · intro a7_2 hz7 H
        exact okj_X12_token_121 v0 a7_2 hz7  H
  · replace H := (gm_ite H).2 c2
    refine go_aloadn dX12_token_55 rfl ?_
    refine go_iconst (v := (0 : Int32)) dX12_token_56 rfl ?_
    refine gm_putI fd_X12_97 (Or.inl rfl) dX12_token_57 H (fun hh5 H => ?_)
    refine go_goto (tgt := 266) dX12_token_60 (by decide) ?_
    obtain rfl := Option.some.inj H
    exact go_return dX12_token_266 rfl
def m_X12_token (v0 : Nat) (h : Hp) : Option Hp :=
  l_X12_token_0 v0 (fun hz1 => j_X12_token_31 v0 hz1) h
set_option maxRecDepth 20000 in
theorem ok_X12_token {r : Hp} {v0 : Nat} {h : Hp} (H : m_X12_token v0 h = some r) : Ev M_X12_token [aA v0] h (none, r) := by
  show Go M_X12_token (none, r) 0 [some (aA v0), none, none] [] h
  unfold m_X12_token at H
  refine okl_X12_token_0 v0 (fun hz1 => j_X12_token_31 v0 hz1) h ?_ H
  · intro hz1 H
    exact okj_X12_token_31 v0 hz1  H
/-! X12_changeBy -/
def j_X12_changeBy_49  (s0 : Int32) (h : Hp) : Option Int32 :=
  some s0
set_option maxRecDepth 20000 in
theorem okj_X12_changeBy_49 {r : Int32}  (s0 : Int32) (h : Hp) (H : j_X12_changeBy_49 s0 h = some r) : Go M_X12_changeBy (some (aI r), h) 49 [none, none, none] [aI s0] h := by
  unfold j_X12_changeBy_49 at H
  obtain rfl := Option.some.inj H
  exact go_ireturn dX12_changeBy_49 (tyI_int rfl)
def m_X12_changeBy (v0 : Nat) (v1 : Int64) (h : Hp) : Option Int32 :=
  j_X12_changeBy_49 (if ¬ (lg_cmp v1 (7370100 : Int64)) = 0 then (if ¬ (lg_cmp v1 (6518132 : Int64)) = 0 then (if ¬ (lg_cmp v1 (1836021349 : Int64)) = 0 then (if ¬ (lg_cmp v1 (1650549611 : Int64)) = 0 then (-1 : Int32) else (3 : Int32)) else (2 : Int32)) else (1 : Int32)) else (0 : Int32)) h
set_option maxRecDepth 20000 in
theorem ok_X12_changeBy {r : Int32} {v0 : Nat} {v1 : Int64} {h : Hp} (H : m_X12_changeBy v0 v1 h = some r) : Ev M_X12_changeBy [aA v0, aL v1] h (some (aI r), h) := by
  show Go M_X12_changeBy (some (aI r), h) 0 [some (aA v0), some (aL v1), none] [] h
  unfold m_X12_changeBy at H
  refine go_lloadn dX12_changeBy_0 rfl ?_
  refine go_ldc2 (v := (7370100 : Int64)) tw1533 dX12_changeBy_1 ?_
  refine go_lcmp dX12_changeBy_4 ?_
  refine go_if_ne (tgt := 12) dX12_changeBy_5 (by decide) (fun c1 => ?_) (fun c1 => ?_)
  · rw [if_pos c1] at H
    refine go_lloadn dX12_changeBy_12 rfl ?_
    refine go_ldc2 (v := (6518132 : Int64)) tw1534 dX12_changeBy_13 ?_
    refine go_lcmp dX12_changeBy_16 ?_
    refine go_if_ne (tgt := 24) dX12_changeBy_17 (by decide) (fun c2 => ?_) (fun c2 => ?_)
    · rw [if_pos c2] at H
      refine go_lloadn dX12_changeBy_24 rfl ?_
      refine go_ldc2 (v := (1836021349 : Int64)) tw1535 dX12_changeBy_25 ?_
      refine go_lcmp dX12_changeBy_28 ?_
      refine go_if_ne (tgt := 36) dX12_changeBy_29 (by decide) (fun c3 => ?_) (fun c3 => ?_)
      · rw [if_pos c3] at H
        refine go_lloadn dX12_changeBy_36 rfl ?_
        refine go_ldc2 (v := (1650549611 : Int64)) tw1536 dX12_changeBy_37 ?_
        refine go_lcmp dX12_changeBy_40 ?_
        refine go_if_ne (tgt := 48) dX12_changeBy_41 (by decide) (fun c4 => ?_) (fun c4 => ?_)
        · rw [if_pos c4] at H
          refine go_iconst (v := (-1 : Int32)) dX12_changeBy_48 rfl ?_
          refine go_mask [false, false, false] (loc' := [none, none, none]) rfl ?_
          exact okj_X12_changeBy_49 (-1 : Int32) h  H
        · rw [if_neg c4] at H
          refine go_iconst (v := (3 : Int32)) dX12_changeBy_44 rfl ?_
          refine go_goto (tgt := 49) dX12_changeBy_45 (by decide) ?_
          refine go_mask [false, false, false] (loc' := [none, none, none]) rfl ?_
          exact okj_X12_changeBy_49 (3 : Int32) h  H
      · rw [if_neg c3] at H
        refine go_iconst (v := (2 : Int32)) dX12_changeBy_32 rfl ?_
        refine go_goto (tgt := 49) dX12_changeBy_33 (by decide) ?_
        refine go_mask [false, false, false] (loc' := [none, none, none]) rfl ?_
        exact okj_X12_changeBy_49 (2 : Int32) h  H
    · rw [if_neg c2] at H
      refine go_iconst (v := (1 : Int32)) dX12_changeBy_20 rfl ?_
      refine go_goto (tgt := 49) dX12_changeBy_21 (by decide) ?_
      refine go_mask [false, false, false] (loc' := [none, none, none]) rfl ?_
      exact okj_X12_changeBy_49 (1 : Int32) h  H
  · rw [if_neg c1] at H
    refine go_iconst (v := (0 : Int32)) dX12_changeBy_8 rfl ?_
    refine go_goto (tgt := 49) dX12_changeBy_9 (by decide) ?_
    refine go_mask [false, false, false] (loc' := [none, none, none]) rfl ?_
    exact okj_X12_changeBy_49 (0 : Int32) h  H
/-! X12_addsFault -/
def j_X12_addsFault_31 (v0 : Nat) (v1 : Int32) (v2 : Int32)  (h : Hp) : Option Hp :=
  (pfI h v0 12 16 v1).bind fun hh1 => (pfI hh1 v0 12 17 v2).bind fun hh2 => some hh2
set_option maxRecDepth 20000 in
theorem okj_X12_addsFault_31 {r : Hp} (v0 : Nat) (v1 : Int32) (v2 : Int32)  (h : Hp) (H : j_X12_addsFault_31 v0 v1 v2 h = some r) : Go M_X12_addsFault (none, r) 31 [some (aA v0), some (aI v1), some (aI v2)] [] h := by
  unfold j_X12_addsFault_31 at H
  refine go_aloadn dX12_addsFault_31 rfl ?_
  refine go_iloadn dX12_addsFault_32 rfl ?_
  refine gm_putI fd_X12_106 (Or.inl rfl) dX12_addsFault_33 H (fun hh1 H => ?_)
  refine go_aloadn dX12_addsFault_36 rfl ?_
  refine go_iloadn dX12_addsFault_37 rfl ?_
  refine gm_putI fd_X12_109 (Or.inl rfl) dX12_addsFault_38 H (fun hh2 H => ?_)
  obtain rfl := Option.some.inj H
  exact go_return dX12_addsFault_41 rfl
def m_X12_addsFault (v0 : Nat) (v1 : Int32) (v2 : Int32) (h : Hp) : Option Hp :=
  (gfI h v0 12 16).bind fun x1 => if x1 = 0 then j_X12_addsFault_31 v0 v1 v2 h else (gfI h v0 12 17).bind fun x2 => if v2 < x2 then j_X12_addsFault_31 v0 v1 v2 h else (gfI h v0 12 17).bind fun x3 => if ¬ v2 = x3 then (some h) else (gfI h v0 12 16).bind fun x4 => if x4 ≤ v1 then (some h) else j_X12_addsFault_31 v0 v1 v2 h
set_option maxRecDepth 20000 in
theorem ok_X12_addsFault {r : Hp} {v0 : Nat} {v1 : Int32} {v2 : Int32} {h : Hp} (H : m_X12_addsFault v0 v1 v2 h = some r) : Ev M_X12_addsFault [aA v0, aI v1, aI v2] h (none, r) := by
  show Go M_X12_addsFault (none, r) 0 [some (aA v0), some (aI v1), some (aI v2)] [] h
  unfold m_X12_addsFault at H
  refine go_aloadn dX12_addsFault_0 rfl ?_
  refine gm_getI fd_X12_106 dX12_addsFault_1 H (fun x1 H => ?_)
  refine go_if_eq (tgt := 31) dX12_addsFault_4 (by decide) (fun c1 => ?_) (fun c1 => ?_)
  · replace H := (gm_ite H).1 c1
    exact okj_X12_addsFault_31 v0 v1 v2 h  H
  · replace H := (gm_ite H).2 c1
    refine go_iloadn dX12_addsFault_7 rfl ?_
    refine go_aloadn dX12_addsFault_8 rfl ?_
    refine gm_getI fd_X12_109 dX12_addsFault_9 H (fun x2 H => ?_)
    refine go_icmp_lt (tgt := 31) dX12_addsFault_12 (by decide) (fun c2 => ?_) (fun c2 => ?_)
    · replace H := (gm_ite H).1 c2
      exact okj_X12_addsFault_31 v0 v1 v2 h  H
    · replace H := (gm_ite H).2 c2
      refine go_iloadn dX12_addsFault_15 rfl ?_
      refine go_aloadn dX12_addsFault_16 rfl ?_
      refine gm_getI fd_X12_109 dX12_addsFault_17 H (fun x3 H => ?_)
      refine go_icmp_ne (tgt := 41) dX12_addsFault_20 (by decide) (fun c3 => ?_) (fun c3 => ?_)
      · replace H := (gm_ite H).1 c3
        obtain rfl := Option.some.inj H
        exact go_return dX12_addsFault_41 rfl
      · replace H := (gm_ite H).2 c3
        refine go_iloadn dX12_addsFault_23 rfl ?_
        refine go_aloadn dX12_addsFault_24 rfl ?_
        refine gm_getI fd_X12_106 dX12_addsFault_25 H (fun x4 H => ?_)
        refine go_icmp_ge (tgt := 41) dX12_addsFault_28 (by decide) (fun c4 => ?_) (fun c4 => ?_)
        · replace H := (gm_ite H).1 c4
          obtain rfl := Option.some.inj H
          exact go_return dX12_addsFault_41 rfl
        · replace H := (gm_ite H).2 c4
          exact okj_X12_addsFault_31 v0 v1 v2 h  H
/-! X12_fails -/
def m_X12_fails (v0 : Nat) (h : Hp) : Option (Int32 × Hp) :=
  (gfI h v0 12 11).bind fun x1 => (pfI h v0 12 15 x1).bind fun hh1 => some ((0 : Int32), hh1)
set_option maxRecDepth 20000 in
theorem ok_X12_fails {r : (Int32 × Hp)} {v0 : Nat} {h : Hp} (H : m_X12_fails v0 h = some r) : Ev M_X12_fails [aA v0] h (some (aI r.1), r.2) := by
  show Go M_X12_fails (some (aI r.1), r.2) 0 [some (aA v0)] [] h
  unfold m_X12_fails at H
  refine go_aloadn dX12_fails_0 rfl ?_
  refine go_aloadn dX12_fails_1 rfl ?_
  refine gm_getI fd_X12_90 dX12_fails_2 H (fun x1 H => ?_)
  refine gm_putI fd_X12_103 (Or.inl rfl) dX12_fails_5 H (fun hh1 H => ?_)
  refine go_iconst (v := (0 : Int32)) dX12_fails_8 rfl ?_
  obtain rfl := Option.some.inj H
  exact go_ireturn (x := (0 : Int32)) dX12_fails_9 (tyI_bool rfl (by decide))
/-! X12_numberOf -/
def j_X12_numberOf_38 (v0 : Int64) (v3 : Int32) (s0 : Int32) (h : Hp) (k : Int32 → Int32 → Option Int32) : Option Int32 :=
  k s0 (v3 + (-8 : Int32))
set_option maxRecDepth 20000 in
theorem okj_X12_numberOf_38 {r : Int32} (v0 : Int64) (v3 : Int32) (s0 : Int32) (h : Hp) (k : Int32 → Int32 → Option Int32) (Hk : ∀ (v2q : Int32) (v3q : Int32), k v2q v3q = some r → Go M_X12_numberOf (some (aI r), h) 5 [some (aL v0), none, some (aI v2q), some (aI v3q), none] [] h) (H : j_X12_numberOf_38 v0 v3 s0 h k = some r) : Go M_X12_numberOf (some (aI r), h) 38 [some (aL v0), none, none, some (aI v3), none] [aI s0] h := by
  unfold j_X12_numberOf_38 at H
  refine go_istoren (loc2 := [some (aL v0), none, some (aI s0), some (aI v3), none]) dX12_numberOf_38 rfl (by decide) rfl ?_
  refine go_iinc (v := (v3 + (-8 : Int32))) (loc2 := [some (aL v0), none, some (aI s0), some (aI (v3 + (-8 : Int32))), none]) dX12_numberOf_39 rfl rfl (by decide) rfl ?_
  refine go_goto (tgt := 5) dX12_numberOf_42 (by decide) ?_
  exact Hk s0 (v3 + (-8 : Int32)) H
def b_X12_numberOf_5 (v0 : Int64) (h : Hp) (k : Int32 → Int32 → Option Int32) (v2 : Int32) (v3 : Int32) : Option Int32 :=
  if v3 < 0 then (some v2) else if ¬ (Int64.toInt32 ((lshrF v0 v3) &&& (255 : Int64))) = 0 then (j_X12_numberOf_38 v0 v3 ((((27 : Int32) * v2) + (Int64.toInt32 ((lshrF v0 v3) &&& (255 : Int64)))) - (96 : Int32)) h k) else j_X12_numberOf_38 v0 v3 v2 h k
set_option maxRecDepth 20000 in
theorem okb_X12_numberOf_5 {r : Int32} (v0 : Int64) (h : Hp) (k : Int32 → Int32 → Option Int32) (v2 : Int32) (v3 : Int32) (Hk : ∀ (v2q : Int32) (v3q : Int32), k v2q v3q = some r → Go M_X12_numberOf (some (aI r), h) 5 [some (aL v0), none, some (aI v2q), some (aI v3q), none] [] h) (H : b_X12_numberOf_5 v0 h k v2 v3 = some r) : Go M_X12_numberOf (some (aI r), h) 5 [some (aL v0), none, some (aI v2), some (aI v3), none] [] h := by
  unfold b_X12_numberOf_5 at H
  refine go_iloadn dX12_numberOf_5 rfl ?_
  refine go_if_lt (tgt := 45) dX12_numberOf_6 (by decide) (fun c1 => ?_) (fun c1 => ?_)
  · replace H := (gm_ite H).1 c1
    refine go_iloadn dX12_numberOf_45 rfl ?_
    obtain rfl := Option.some.inj H
    exact go_ireturn dX12_numberOf_46 (tyI_int rfl)
  · replace H := (gm_ite H).2 c1
    refine go_lloadn dX12_numberOf_9 rfl ?_
    refine go_iloadn dX12_numberOf_10 rfl ?_
    refine go_lshr dX12_numberOf_11 ?_
    refine go_ldc2 (v := (255 : Int64)) tw1561 dX12_numberOf_12 ?_
    refine go_land dX12_numberOf_15 ?_
    refine go_l2i dX12_numberOf_16 ?_
    refine go_istore (loc2 := [some (aL v0), none, some (aI v2), some (aI v3), some (aI (Int64.toInt32 ((lshrF v0 v3) &&& (255 : Int64))))]) dX12_numberOf_17 (by decide) rfl ?_
    refine go_iload dX12_numberOf_19 rfl ?_
    refine go_if_ne (tgt := 28) dX12_numberOf_21 (by decide) (fun c2 => ?_) (fun c2 => ?_)
    · replace H := (gm_ite H).1 c2
      refine go_bipush (v := (27 : Int32)) dX12_numberOf_28 rfl ?_
      refine go_iloadn dX12_numberOf_30 rfl ?_
      refine go_imul dX12_numberOf_31 ?_
      refine go_iload dX12_numberOf_32 rfl ?_
      refine go_iadd dX12_numberOf_34 ?_
      refine go_bipush (v := (96 : Int32)) dX12_numberOf_35 rfl ?_
      refine go_isub dX12_numberOf_37 ?_
      refine go_mask [true, false, false, true, false] (loc' := [some (aL v0), none, none, some (aI v3), none]) rfl ?_
      exact okj_X12_numberOf_38 v0 v3 ((((27 : Int32) * v2) + (Int64.toInt32 ((lshrF v0 v3) &&& (255 : Int64)))) - (96 : Int32)) h k Hk H
    · replace H := (gm_ite H).2 c2
      refine go_iloadn dX12_numberOf_24 rfl ?_
      refine go_goto (tgt := 38) dX12_numberOf_25 (by decide) ?_
      refine go_mask [true, false, false, true, false] (loc' := [some (aL v0), none, none, some (aI v3), none]) rfl ?_
      exact okj_X12_numberOf_38 v0 v3 v2 h k Hk H
def l_X12_numberOf_5 (v0 : Int64) (h : Hp) (v2 : Int32) (v3 : Int32) : Option Int32 := loopK FUEL (fun (k : Int32 × Int32 → Option Int32) (s : Int32 × Int32) => b_X12_numberOf_5 v0 h (fun v2q v3q => k (v2q, v3q)) s.1 s.2) (v2, v3)
theorem okl_X12_numberOf_5 {r : Int32} (v0 : Int64) (h : Hp) (v2 : Int32) (v3 : Int32) (H : l_X12_numberOf_5 v0 h v2 v3 = some r) : Go M_X12_numberOf (some (aI r), h) 5 [some (aL v0), none, some (aI v2), some (aI v3), none] [] h := by
  unfold l_X12_numberOf_5 at H
  exact go_loop (σ := Int32 × Int32) (body := (fun (k : Int32 × Int32 → Option Int32) (s : Int32 × Int32) => b_X12_numberOf_5 v0 h (fun v2q v3q => k (v2q, v3q)) s.1 s.2)) (fun s => [some (aL v0), none, some (aI s.1), some (aI s.2), none]) (fun s => h) (fun k s Hk H => okb_X12_numberOf_5 v0 h (fun v2q v3q => k (v2q, v3q)) s.1 s.2  (fun v2q v3q H => Hk (v2q, v3q) H) H) FUEL (v2, v3) H
def m_X12_numberOf (v0 : Int64) (h : Hp) : Option Int32 :=
  l_X12_numberOf_5 v0 h (0 : Int32) (24 : Int32)
set_option maxRecDepth 20000 in
theorem ok_X12_numberOf {r : Int32} {v0 : Int64} {h : Hp} (H : m_X12_numberOf v0 h = some r) : Ev M_X12_numberOf [aL v0] h (some (aI r), h) := by
  show Go M_X12_numberOf (some (aI r), h) 0 [some (aL v0), none, none, none, none] [] h
  unfold m_X12_numberOf at H
  refine go_iconst (v := (0 : Int32)) dX12_numberOf_0 rfl ?_
  refine go_istoren (loc2 := [some (aL v0), none, some (aI (0 : Int32)), none, none]) dX12_numberOf_1 rfl (by decide) rfl ?_
  refine go_bipush (v := (24 : Int32)) dX12_numberOf_2 rfl ?_
  refine go_istoren (loc2 := [some (aL v0), none, some (aI (0 : Int32)), some (aI (24 : Int32)), none]) dX12_numberOf_4 rfl (by decide) rfl ?_
  exact okl_X12_numberOf_5 v0 h (0 : Int32) (24 : Int32) H
/-! X12_takeWord -/
def j_X12_takeWord_40 (v0 : Nat)  (h : Hp) : Option (Int32 × Hp) :=
  (gfR h v0 12 20).bind fun x1 => (gfI h v0 12 21).bind fun x2 => (gfJ h v0 12 14).bind fun x3 => (m_X12_numberOf x3 h).bind fun x4 => (asI h x1 x2 x4).bind fun hh1 => (gfI hh1 v0 12 21).bind fun x5 => (pfI hh1 v0 12 21 (x5 + (1 : Int32))).bind fun hh2 => (rc hh2 v0 12 (m_X12_token v0 hh2)).bind fun x6 => some ((1 : Int32), x6)
set_option maxRecDepth 20000 in
theorem okj_X12_takeWord_40 {r : (Int32 × Hp)} (v0 : Nat)  (h : Hp) (H : j_X12_takeWord_40 v0 h = some r) : Go M_X12_takeWord (some (aI r.1), r.2) 40 [some (aA v0)] [] h := by
  unfold j_X12_takeWord_40 at H
  refine go_aloadn dX12_takeWord_40 rfl ?_
  refine gm_getR fd_X12_41 dX12_takeWord_41 H (fun x1 H => ?_)
  refine go_aloadn dX12_takeWord_44 rfl ?_
  refine gm_getI fd_X12_129 dX12_takeWord_45 H (fun x2 H => ?_)
  refine go_aloadn dX12_takeWord_48 rfl ?_
  refine gm_getJ fd_X12_93 dX12_takeWord_49 H (fun x3 H => ?_)
  obtain ⟨x4, ex4, H⟩ := bind_some H
  refine go_callS (vs := [aL x3]) (stk := [aI x2, aA x1]) (o1 := (some (aI x4), h)) mk_X12_numberOf ss_X12_takeWord_132 dX12_takeWord_52 rfl rfl (Nat.le_of_ble_eq_true rfl) (Nat.le_of_ble_eq_true rfl) (ok_X12_numberOf ex4) (show Go M_X12_takeWord (some (aI r.1), r.2) 55 [some (aA v0)] [aI x4, aI x2, aA x1] h from ?_)
  refine gm_iast dX12_takeWord_55 H (fun hh1 H => ?_)
  refine go_aloadn dX12_takeWord_56 rfl ?_
  refine go_dupA dX12_takeWord_57 ?_
  refine gm_getI fd_X12_129 dX12_takeWord_58 H (fun x5 H => ?_)
  refine go_iconst (v := (1 : Int32)) dX12_takeWord_61 rfl ?_
  refine go_iadd dX12_takeWord_62 ?_
  refine gm_putI fd_X12_129 (Or.inl rfl) dX12_takeWord_63 H (fun hh2 H => ?_)
  refine go_aloadn dX12_takeWord_66 rfl ?_
  obtain ⟨c2, x6, ex6, H⟩ := gm_rc H
  refine go_callV (vs := []) (stk := []) (o1 := (none, x6)) mk_X12_token sv_X12_takeWord_124 cl_X12 rfl dX12_takeWord_67 c2 rfl rfl (Nat.le_of_ble_eq_true rfl) (Nat.le_of_ble_eq_true rfl) (ok_X12_token ex6) (show Go M_X12_takeWord (some (aI r.1), r.2) 70 [some (aA v0)] [] x6 from ?_)
  refine go_iconst (v := (1 : Int32)) dX12_takeWord_70 rfl ?_
  obtain rfl := Option.some.inj H
  exact go_ireturn (x := (1 : Int32)) dX12_takeWord_71 (tyI_bool rfl (by decide))
def m_X12_takeWord (v0 : Nat) (h : Hp) : Option (Int32 × Hp) :=
  (gfI h v0 12 12).bind fun x1 => if x1 = (2 : Int32) then ((gfI h v0 12 9).bind fun x2 => (gfI h v0 12 11).bind fun x3 => if (x2 - x3) ≤ (4 : Int32) then j_X12_takeWord_40 v0 h else (gfI h v0 12 11).bind fun x4 => (rc h v0 12 (m_X12_addsFault v0 (2 : Int32) x4 h)).bind fun x5 => (pfI x5 v0 12 22 (0 : Int32)).bind fun hh1 => j_X12_takeWord_40 v0 hh1) else (rc h v0 12 (m_X12_fails v0 h)).bind fun x6 => (zb x6.1).bind fun x7 => some (x7, x6.2)
set_option maxRecDepth 20000 in
theorem ok_X12_takeWord {r : (Int32 × Hp)} {v0 : Nat} {h : Hp} (H : m_X12_takeWord v0 h = some r) : Ev M_X12_takeWord [aA v0] h (some (aI r.1), r.2) := by
  show Go M_X12_takeWord (some (aI r.1), r.2) 0 [some (aA v0)] [] h
  unfold m_X12_takeWord at H
  refine go_aloadn dX12_takeWord_0 rfl ?_
  refine gm_getI fd_X12_97 dX12_takeWord_1 H (fun x1 H => ?_)
  refine go_iconst (v := (2 : Int32)) dX12_takeWord_4 rfl ?_
  refine go_icmp_eq (tgt := 13) dX12_takeWord_5 (by decide) (fun c1 => ?_) (fun c1 => ?_)
  · replace H := (gm_ite H).1 c1
    refine go_aloadn dX12_takeWord_13 rfl ?_
    refine gm_getI fd_X12_80 dX12_takeWord_14 H (fun x2 H => ?_)
    refine go_aloadn dX12_takeWord_17 rfl ?_
    refine gm_getI fd_X12_90 dX12_takeWord_18 H (fun x3 H => ?_)
    refine go_isub dX12_takeWord_21 ?_
    refine go_iconst (v := (4 : Int32)) dX12_takeWord_22 rfl ?_
    refine go_icmp_le (tgt := 40) dX12_takeWord_23 (by decide) (fun c2 => ?_) (fun c2 => ?_)
    · replace H := (gm_ite H).1 c2
      exact okj_X12_takeWord_40 v0 h  H
    · replace H := (gm_ite H).2 c2
      refine go_aloadn dX12_takeWord_26 rfl ?_
      refine go_iconst (v := (2 : Int32)) dX12_takeWord_27 rfl ?_
      refine go_aloadn dX12_takeWord_28 rfl ?_
      refine gm_getI fd_X12_90 dX12_takeWord_29 H (fun x4 H => ?_)
      obtain ⟨c3, x5, ex5, H⟩ := gm_rc H
      refine go_callV (vs := [aI (2 : Int32), aI x4]) (stk := []) (o1 := (none, x5)) mk_X12_addsFault sv_X12_takeWord_116 cl_X12 rfl dX12_takeWord_32 c3 rfl rfl (Nat.le_of_ble_eq_true rfl) (Nat.le_of_ble_eq_true rfl) (ok_X12_addsFault ex5) (show Go M_X12_takeWord (some (aI r.1), r.2) 35 [some (aA v0)] [] x5 from ?_)
      refine go_aloadn dX12_takeWord_35 rfl ?_
      refine go_iconst (v := (0 : Int32)) dX12_takeWord_36 rfl ?_
      refine gm_putZ fd_X12_120 (Or.inl rfl) (by decide) dX12_takeWord_37 H (fun hh1 H => ?_)
      exact okj_X12_takeWord_40 v0 hh1  H
  · replace H := (gm_ite H).2 c1
    refine go_aloadn dX12_takeWord_8 rfl ?_
    obtain ⟨c4, x6, ex6, H⟩ := gm_rc H
    refine go_callV (vs := []) (stk := []) (o1 := (some (aI x6.1), x6.2)) mk_X12_fails sv_X12_takeWord_112 cl_X12 rfl dX12_takeWord_9 c4 rfl rfl (Nat.le_of_ble_eq_true rfl) (Nat.le_of_ble_eq_true rfl) (ok_X12_fails ex6) (show Go M_X12_takeWord (some (aI r.1), r.2) 12 [some (aA v0)] [aI x6.1] x6.2 from ?_)
    obtain ⟨hz, H⟩ := gm_zb H
    obtain rfl := Option.some.inj H
    exact go_ireturn (x := x6.1) dX12_takeWord_12 (tyI_bool rfl hz)
/-! X12_takeWords -/
def j_X12_takeWords_25 (v0 : Nat) (v1 : Int32)  (h : Hp) (k : Hp → Option Hp) : Option Hp :=
  (rc h v0 12 (m_X12_takeWord v0 h)).bind fun x1 => k x1.2
set_option maxRecDepth 20000 in
theorem okj_X12_takeWords_25 {r : Hp} (v0 : Nat) (v1 : Int32)  (h : Hp) (k : Hp → Option Hp) (Hk : ∀  (hq : Hp), k hq = some r → Go M_X12_takeWords (none, r) 0 [some (aA v0), some (aI v1)] [] hq) (H : j_X12_takeWords_25 v0 v1 h k = some r) : Go M_X12_takeWords (none, r) 25 [some (aA v0), some (aI v1)] [] h := by
  unfold j_X12_takeWords_25 at H
  refine go_aloadn dX12_takeWords_25 rfl ?_
  obtain ⟨c1, x1, ex1, H⟩ := gm_rc H
  refine go_callV (vs := []) (stk := []) (o1 := (some (aI x1.1), x1.2)) mk_X12_takeWord sv_X12_takeWords_136 cl_X12 rfl dX12_takeWords_26 c1 rfl rfl (Nat.le_of_ble_eq_true rfl) (Nat.le_of_ble_eq_true rfl) (ok_X12_takeWord ex1) (show Go M_X12_takeWords (none, r) 29 [some (aA v0), some (aI v1)] [aI x1.1] x1.2 from ?_)
  refine go_popI dX12_takeWords_29 ?_
  refine go_goto (tgt := 0) dX12_takeWords_30 (by decide) ?_
  exact Hk x1.2 H
def b_X12_takeWords_0 (v0 : Nat) (v1 : Int32) (k : Hp → Option Hp)  (h : Hp) : Option Hp :=
  (gfI h v0 12 12).bind fun x1 => if ¬ x1 = (2 : Int32) then (some h) else (gfI h v0 12 21).bind fun x2 => if x2 < v1 then j_X12_takeWords_25 v0 v1 h k else (gfI h v0 12 11).bind fun x3 => (rc h v0 12 (m_X12_addsFault v0 (3 : Int32) x3 h)).bind fun x4 => j_X12_takeWords_25 v0 v1 x4 k
set_option maxRecDepth 20000 in
theorem okb_X12_takeWords_0 {r : Hp} (v0 : Nat) (v1 : Int32) (k : Hp → Option Hp)  (h : Hp) (Hk : ∀  (hq : Hp), k hq = some r → Go M_X12_takeWords (none, r) 0 [some (aA v0), some (aI v1)] [] hq) (H : b_X12_takeWords_0 v0 v1 k h = some r) : Go M_X12_takeWords (none, r) 0 [some (aA v0), some (aI v1)] [] h := by
  unfold b_X12_takeWords_0 at H
  refine go_aloadn dX12_takeWords_0 rfl ?_
  refine gm_getI fd_X12_97 dX12_takeWords_1 H (fun x1 H => ?_)
  refine go_iconst (v := (2 : Int32)) dX12_takeWords_4 rfl ?_
  refine go_icmp_ne (tgt := 33) dX12_takeWords_5 (by decide) (fun c1 => ?_) (fun c1 => ?_)
  · replace H := (gm_ite H).1 c1
    obtain rfl := Option.some.inj H
    exact go_return dX12_takeWords_33 rfl
  · replace H := (gm_ite H).2 c1
    refine go_aloadn dX12_takeWords_8 rfl ?_
    refine gm_getI fd_X12_129 dX12_takeWords_9 H (fun x2 H => ?_)
    refine go_iloadn dX12_takeWords_12 rfl ?_
    refine go_icmp_lt (tgt := 25) dX12_takeWords_13 (by decide) (fun c2 => ?_) (fun c2 => ?_)
    · replace H := (gm_ite H).1 c2
      exact okj_X12_takeWords_25 v0 v1 h k Hk H
    · replace H := (gm_ite H).2 c2
      refine go_aloadn dX12_takeWords_16 rfl ?_
      refine go_iconst (v := (3 : Int32)) dX12_takeWords_17 rfl ?_
      refine go_aloadn dX12_takeWords_18 rfl ?_
      refine gm_getI fd_X12_90 dX12_takeWords_19 H (fun x3 H => ?_)
      obtain ⟨c3, x4, ex4, H⟩ := gm_rc H
      refine go_callV (vs := [aI (3 : Int32), aI x3]) (stk := []) (o1 := (none, x4)) mk_X12_addsFault sv_X12_takeWords_116 cl_X12 rfl dX12_takeWords_22 c3 rfl rfl (Nat.le_of_ble_eq_true rfl) (Nat.le_of_ble_eq_true rfl) (ok_X12_addsFault ex4) (show Go M_X12_takeWords (none, r) 25 [some (aA v0), some (aI v1)] [] x4 from ?_)
      exact okj_X12_takeWords_25 v0 v1 x4 k Hk H
def l_X12_takeWords_0 (v0 : Nat) (v1 : Int32)  (h : Hp) : Option Hp := loopK FUEL (fun (k : Hp → Option Hp) (s : Hp) => b_X12_takeWords_0 v0 v1 (fun hq => k hq) s) h
theorem okl_X12_takeWords_0 {r : Hp} (v0 : Nat) (v1 : Int32)  (h : Hp) (H : l_X12_takeWords_0 v0 v1 h = some r) : Go M_X12_takeWords (none, r) 0 [some (aA v0), some (aI v1)] [] h := by
  unfold l_X12_takeWords_0 at H
  exact go_loop (σ := Hp) (body := (fun (k : Hp → Option Hp) (s : Hp) => b_X12_takeWords_0 v0 v1 (fun hq => k hq) s)) (fun s => [some (aA v0), some (aI v1)]) (fun s => s) (fun k s Hk H => okb_X12_takeWords_0 v0 v1 (fun hq => k hq) s  (fun hq H => Hk hq H) H) FUEL h H
def m_X12_takeWords (v0 : Nat) (v1 : Int32) (h : Hp) : Option Hp :=
  l_X12_takeWords_0 v0 v1 h
set_option maxRecDepth 20000 in
theorem ok_X12_takeWords {r : Hp} {v0 : Nat} {v1 : Int32} {h : Hp} (H : m_X12_takeWords v0 v1 h = some r) : Ev M_X12_takeWords [aA v0, aI v1] h (none, r) := by
  show Go M_X12_takeWords (none, r) 0 [some (aA v0), some (aI v1)] [] h
  unfold m_X12_takeWords at H
  exact okl_X12_takeWords_0 v0 v1 h H
/-! X12_at -/
def m_X12_at (v0 : Int32) (v1 : Int32) (h : Hp) : Option Int32 :=
  some (((10 : Int32) * v0) + v1)
set_option maxRecDepth 20000 in
theorem ok_X12_at {r : Int32} {v0 : Int32} {v1 : Int32} {h : Hp} (H : m_X12_at v0 v1 h = some r) : Ev M_X12_at [aI v0, aI v1] h (some (aI r), h) := by
  show Go M_X12_at (some (aI r), h) 0 [some (aI v0), some (aI v1)] [] h
  unfold m_X12_at at H
  refine go_bipush (v := (10 : Int32)) dX12_at_0 rfl ?_
  refine go_iloadn dX12_at_2 rfl ?_
  refine go_imul dX12_at_3 ?_
  refine go_iloadn dX12_at_4 rfl ?_
  refine go_iadd dX12_at_5 ?_
  obtain rfl := Option.some.inj H
  exact go_ireturn dX12_at_6 (tyI_int rfl)
/-! X12_latest -/
def m_X12_latest (v0 : Nat) (v1 : Int32) (h : Hp) : Option Int32 :=
  (gfR h v0 12 18).bind fun x1 => (alI h x1 ((1 : Int32) + v1)).bind fun x2 => (m_X12_at v1 (x2 - (1 : Int32)) h).bind fun x3 => some x3
set_option maxRecDepth 20000 in
theorem ok_X12_latest {r : Int32} {v0 : Nat} {v1 : Int32} {h : Hp} (H : m_X12_latest v0 v1 h = some r) : Ev M_X12_latest [aA v0, aI v1] h (some (aI r), h) := by
  show Go M_X12_latest (some (aI r), h) 0 [some (aA v0), some (aI v1)] [] h
  unfold m_X12_latest at H
  refine go_iloadn dX12_latest_0 rfl ?_
  refine go_aloadn dX12_latest_1 rfl ?_
  refine gm_getR fd_X12_35 dX12_latest_2 H (fun x1 H => ?_)
  refine go_iconst (v := (1 : Int32)) dX12_latest_5 rfl ?_
  refine go_iloadn dX12_latest_6 rfl ?_
  refine go_iadd dX12_latest_7 ?_
  refine gm_iald dX12_latest_8 H (fun x2 H => ?_)
  refine go_iconst (v := (1 : Int32)) dX12_latest_9 rfl ?_
  refine go_isub dX12_latest_10 ?_
  obtain ⟨x3, ex3, H⟩ := bind_some H
  refine go_callS (vs := [aI v1, aI (x2 - (1 : Int32))]) (stk := []) (o1 := (some (aI x3), h)) mk_X12_at ss_X12_latest_146 dX12_latest_11 rfl rfl (Nat.le_of_ble_eq_true rfl) (Nat.le_of_ble_eq_true rfl) (ok_X12_at ex3) (show Go M_X12_latest (some (aI r), h) 14 [some (aA v0), some (aI v1)] [aI x3] h from ?_)
  obtain rfl := Option.some.inj H
  exact go_ireturn dX12_latest_14 (tyI_int rfl)
/-! X12_beginVersion -/
def m_X12_beginVersion (v0 : Nat) (v1 : Int32) (h : Hp) : Option Hp :=
  (gfR h v0 12 18).bind fun x1 => (alI h x1 ((1 : Int32) + v1)).bind fun x2 => (asI h x1 ((1 : Int32) + v1) (x2 + (1 : Int32))).bind fun hh1 => (gfR hh1 v0 12 18).bind fun x3 => (rc hh1 v0 12 (m_X12_latest v0 v1 hh1)).bind fun x4 => (asI hh1 x3 ((46 : Int32) + x4) (0 : Int32)).bind fun hh2 => (gfR hh2 v0 12 18).bind fun x5 => (rc hh2 v0 12 (m_X12_latest v0 v1 hh2)).bind fun x6 => (gfI hh2 v0 12 23).bind fun x7 => (asI hh2 x5 ((6 : Int32) + x6) x7).bind fun hh3 => some hh3
set_option maxRecDepth 20000 in
theorem ok_X12_beginVersion {r : Hp} {v0 : Nat} {v1 : Int32} {h : Hp} (H : m_X12_beginVersion v0 v1 h = some r) : Ev M_X12_beginVersion [aA v0, aI v1] h (none, r) := by
  show Go M_X12_beginVersion (none, r) 0 [some (aA v0), some (aI v1)] [] h
  unfold m_X12_beginVersion at H
  refine go_aloadn dX12_beginVersion_0 rfl ?_
  refine gm_getR fd_X12_35 dX12_beginVersion_1 H (fun x1 H => ?_)
  refine go_iconst (v := (1 : Int32)) dX12_beginVersion_4 rfl ?_
  refine go_iloadn dX12_beginVersion_5 rfl ?_
  refine go_iadd dX12_beginVersion_6 ?_
  refine go_dup2IA dX12_beginVersion_7 ?_
  refine gm_iald dX12_beginVersion_8 H (fun x2 H => ?_)
  refine go_iconst (v := (1 : Int32)) dX12_beginVersion_9 rfl ?_
  refine go_iadd dX12_beginVersion_10 ?_
  refine gm_iast dX12_beginVersion_11 H (fun hh1 H => ?_)
  refine go_aloadn dX12_beginVersion_12 rfl ?_
  refine gm_getR fd_X12_35 dX12_beginVersion_13 H (fun x3 H => ?_)
  refine go_bipush (v := (46 : Int32)) dX12_beginVersion_16 rfl ?_
  refine go_aloadn dX12_beginVersion_18 rfl ?_
  refine go_iloadn dX12_beginVersion_19 rfl ?_
  obtain ⟨c1, x4, ex4, H⟩ := gm_rc H
  refine go_callV (vs := [aI v1]) (stk := [aI (46 : Int32), aA x3]) (o1 := (some (aI x4), hh1)) mk_X12_latest sv_X12_beginVersion_139 cl_X12 rfl dX12_beginVersion_20 c1 rfl rfl (Nat.le_of_ble_eq_true rfl) (Nat.le_of_ble_eq_true rfl) (ok_X12_latest ex4) (show Go M_X12_beginVersion (none, r) 23 [some (aA v0), some (aI v1)] [aI x4, aI (46 : Int32), aA x3] hh1 from ?_)
  refine go_iadd dX12_beginVersion_23 ?_
  refine go_iconst (v := (0 : Int32)) dX12_beginVersion_24 rfl ?_
  refine gm_iast dX12_beginVersion_25 H (fun hh2 H => ?_)
  refine go_aloadn dX12_beginVersion_26 rfl ?_
  refine gm_getR fd_X12_35 dX12_beginVersion_27 H (fun x5 H => ?_)
  refine go_bipush (v := (6 : Int32)) dX12_beginVersion_30 rfl ?_
  refine go_aloadn dX12_beginVersion_32 rfl ?_
  refine go_iloadn dX12_beginVersion_33 rfl ?_
  obtain ⟨c2, x6, ex6, H⟩ := gm_rc H
  refine go_callV (vs := [aI v1]) (stk := [aI (6 : Int32), aA x5]) (o1 := (some (aI x6), hh2)) mk_X12_latest sv_X12_beginVersion_139 cl_X12 rfl dX12_beginVersion_34 c2 rfl rfl (Nat.le_of_ble_eq_true rfl) (Nat.le_of_ble_eq_true rfl) (ok_X12_latest ex6) (show Go M_X12_beginVersion (none, r) 37 [some (aA v0), some (aI v1)] [aI x6, aI (6 : Int32), aA x5] hh2 from ?_)
  refine go_iadd dX12_beginVersion_37 ?_
  refine go_aloadn dX12_beginVersion_38 rfl ?_
  refine gm_getI fd_X12_143 dX12_beginVersion_39 H (fun x7 H => ?_)
  refine gm_iast dX12_beginVersion_42 H (fun hh3 H => ?_)
  obtain rfl := Option.some.inj H
  exact go_return dX12_beginVersion_43 rfl
/-! X12_lesser -/
def j_X12_lesser_10  (s0 : Int32) (h : Hp) : Option Int32 :=
  some s0
set_option maxRecDepth 20000 in
theorem okj_X12_lesser_10 {r : Int32}  (s0 : Int32) (h : Hp) (H : j_X12_lesser_10 s0 h = some r) : Go M_X12_lesser (some (aI r), h) 10 [none, none] [aI s0] h := by
  unfold j_X12_lesser_10 at H
  obtain rfl := Option.some.inj H
  exact go_ireturn dX12_lesser_10 (tyI_int rfl)
def m_X12_lesser (v0 : Int32) (v1 : Int32) (h : Hp) : Option Int32 :=
  j_X12_lesser_10 (if v1 ≤ v0 then v1 else v0) h
set_option maxRecDepth 20000 in
theorem ok_X12_lesser {r : Int32} {v0 : Int32} {v1 : Int32} {h : Hp} (H : m_X12_lesser v0 v1 h = some r) : Ev M_X12_lesser [aI v0, aI v1] h (some (aI r), h) := by
  show Go M_X12_lesser (some (aI r), h) 0 [some (aI v0), some (aI v1)] [] h
  unfold m_X12_lesser at H
  refine go_iloadn dX12_lesser_0 rfl ?_
  refine go_iloadn dX12_lesser_1 rfl ?_
  refine go_icmp_ge (tgt := 9) dX12_lesser_2 (by decide) (fun c1 => ?_) (fun c1 => ?_)
  · rw [if_pos c1] at H
    refine go_iloadn dX12_lesser_9 rfl ?_
    refine go_mask [false, false] (loc' := [none, none]) rfl ?_
    exact okj_X12_lesser_10 v1 h  H
  · rw [if_neg c1] at H
    refine go_iloadn dX12_lesser_5 rfl ?_
    refine go_goto (tgt := 10) dX12_lesser_6 (by decide) ?_
    refine go_mask [false, false] (loc' := [none, none]) rfl ?_
    exact okj_X12_lesser_10 v0 h  H
/-! X12_newToken -/
def m_X12_newToken (v0 : Nat) (v1 : Int32) (v2 : Int32) (h : Hp) : Option (Int32 × Hp) :=
  (gfR h v0 12 18).bind fun x1 => (alI h x1 (5 : Int32)).bind fun x2 => (gfR h v0 12 18).bind fun x3 => (asI h x3 ((886 : Int32) + x2) v2).bind fun hh1 => (gfR hh1 v0 12 18).bind fun x4 => (asI hh1 x4 ((1206 : Int32) + x2) v1).bind fun hh2 => (gfR hh2 v0 12 18).bind fun x5 => (m_X12_lesser (319 : Int32) (x2 + (1 : Int32)) hh2).bind fun x6 => (asI hh2 x5 (5 : Int32) x6).bind fun hh3 => some (x2, hh3)
set_option maxRecDepth 20000 in
theorem ok_X12_newToken {r : (Int32 × Hp)} {v0 : Nat} {v1 : Int32} {v2 : Int32} {h : Hp} (H : m_X12_newToken v0 v1 v2 h = some r) : Ev M_X12_newToken [aA v0, aI v1, aI v2] h (some (aI r.1), r.2) := by
  show Go M_X12_newToken (some (aI r.1), r.2) 0 [some (aA v0), some (aI v1), some (aI v2), none] [] h
  unfold m_X12_newToken at H
  refine go_aloadn dX12_newToken_0 rfl ?_
  refine gm_getR fd_X12_35 dX12_newToken_1 H (fun x1 H => ?_)
  refine go_iconst (v := (5 : Int32)) dX12_newToken_4 rfl ?_
  refine gm_iald dX12_newToken_5 H (fun x2 H => ?_)
  refine go_istoren (loc2 := [some (aA v0), some (aI v1), some (aI v2), some (aI x2)]) dX12_newToken_6 rfl (by decide) rfl ?_
  refine go_aloadn dX12_newToken_7 rfl ?_
  refine gm_getR fd_X12_35 dX12_newToken_8 H (fun x3 H => ?_)
  refine go_sipush (v := (886 : Int32)) dX12_newToken_11 rfl ?_
  refine go_iloadn dX12_newToken_14 rfl ?_
  refine go_iadd dX12_newToken_15 ?_
  refine go_iloadn dX12_newToken_16 rfl ?_
  refine gm_iast dX12_newToken_17 H (fun hh1 H => ?_)
  refine go_aloadn dX12_newToken_18 rfl ?_
  refine gm_getR fd_X12_35 dX12_newToken_19 H (fun x4 H => ?_)
  refine go_sipush (v := (1206 : Int32)) dX12_newToken_22 rfl ?_
  refine go_iloadn dX12_newToken_25 rfl ?_
  refine go_iadd dX12_newToken_26 ?_
  refine go_iloadn dX12_newToken_27 rfl ?_
  refine gm_iast dX12_newToken_28 H (fun hh2 H => ?_)
  refine go_aloadn dX12_newToken_29 rfl ?_
  refine gm_getR fd_X12_35 dX12_newToken_30 H (fun x5 H => ?_)
  refine go_iconst (v := (5 : Int32)) dX12_newToken_33 rfl ?_
  refine go_sipush (v := (319 : Int32)) dX12_newToken_34 rfl ?_
  refine go_iloadn dX12_newToken_37 rfl ?_
  refine go_iconst (v := (1 : Int32)) dX12_newToken_38 rfl ?_
  refine go_iadd dX12_newToken_39 ?_
  obtain ⟨x6, ex6, H⟩ := bind_some H
  refine go_callS (vs := [aI (319 : Int32), aI (x2 + (1 : Int32))]) (stk := [aI (5 : Int32), aA x5]) (o1 := (some (aI x6), hh2)) mk_X12_lesser ss_X12_newToken_150 dX12_newToken_40 rfl rfl (Nat.le_of_ble_eq_true rfl) (Nat.le_of_ble_eq_true rfl) (ok_X12_lesser ex6) (show Go M_X12_newToken (some (aI r.1), r.2) 43 [some (aA v0), some (aI v1), some (aI v2), some (aI x2)] [aI x6, aI (5 : Int32), aA x5] hh2 from ?_)
  refine gm_iast dX12_newToken_43 H (fun hh3 H => ?_)
  refine go_iloadn dX12_newToken_44 rfl ?_
  obtain rfl := Option.some.inj H
  exact go_ireturn dX12_newToken_45 (tyI_int rfl)
