/-! X12_addWord -/
def m_X12_addWord (v0 : Nat) (v1 : Int32) (v2 : Int32) (h : Hp) : Option Hp :=
  (rc h v0 12 (m_X12_latest v0 v1 h)).bind fun x1 => (gfR h v0 12 18).bind fun x2 => (alI h x2 ((46 : Int32) + x1)).bind fun x3 => if (20 : Int32) ≤ x3 then (some h) else (gfR h v0 12 18).bind fun x4 => (asI h x4 (((86 : Int32) + ((20 : Int32) * x1)) + x3) v2).bind fun hh1 => (gfR hh1 v0 12 18).bind fun x5 => (alI hh1 x5 ((46 : Int32) + x1)).bind fun x6 => (asI hh1 x5 ((46 : Int32) + x1) (x6 + (1 : Int32))).bind fun hh2 => some hh2
set_option maxRecDepth 20000 in
theorem ok_X12_addWord {r : Hp} {v0 : Nat} {v1 : Int32} {v2 : Int32} {h : Hp} (H : m_X12_addWord v0 v1 v2 h = some r) : Ev M_X12_addWord [aA v0, aI v1, aI v2] h (none, r) := by
  show Go M_X12_addWord (none, r) 0 [some (aA v0), some (aI v1), some (aI v2), none, none] [] h
  unfold m_X12_addWord at H
  refine go_aloadn dX12_addWord_0 rfl ?_
  refine go_iloadn dX12_addWord_1 rfl ?_
  obtain ⟨c1, x1, ex1, H⟩ := gm_rc H
  refine go_callV (vs := [aI v1]) (stk := []) (o1 := (some (aI x1), h)) mk_X12_latest sv_X12_addWord_139 cl_X12 rfl dX12_addWord_2 c1 rfl rfl (Nat.le_of_ble_eq_true rfl) (Nat.le_of_ble_eq_true rfl) (ok_X12_latest ex1) (show Go M_X12_addWord (none, r) 5 [some (aA v0), some (aI v1), some (aI v2), none, none] [aI x1] h from ?_)
  refine go_istoren (loc2 := [some (aA v0), some (aI v1), some (aI v2), some (aI x1), none]) dX12_addWord_5 rfl (by decide) rfl ?_
  refine go_aloadn dX12_addWord_6 rfl ?_
  refine gm_getR fd_X12_35 dX12_addWord_7 H (fun x2 H => ?_)
  refine go_bipush (v := (46 : Int32)) dX12_addWord_10 rfl ?_
  refine go_iloadn dX12_addWord_12 rfl ?_
  refine go_iadd dX12_addWord_13 ?_
  refine gm_iald dX12_addWord_14 H (fun x3 H => ?_)
  refine go_istore (loc2 := [some (aA v0), some (aI v1), some (aI v2), some (aI x1), some (aI x3)]) dX12_addWord_15 (by decide) rfl ?_
  refine go_iload dX12_addWord_17 rfl ?_
  refine go_bipush (v := (20 : Int32)) dX12_addWord_19 rfl ?_
  refine go_icmp_ge (tgt := 53) dX12_addWord_21 (by decide) (fun c2 => ?_) (fun c2 => ?_)
  · replace H := (gm_ite H).1 c2
    obtain rfl := Option.some.inj H
    exact go_return dX12_addWord_53 rfl
  · replace H := (gm_ite H).2 c2
    refine go_aloadn dX12_addWord_24 rfl ?_
    refine gm_getR fd_X12_35 dX12_addWord_25 H (fun x4 H => ?_)
    refine go_bipush (v := (86 : Int32)) dX12_addWord_28 rfl ?_
    refine go_bipush (v := (20 : Int32)) dX12_addWord_30 rfl ?_
    refine go_iloadn dX12_addWord_32 rfl ?_
    refine go_imul dX12_addWord_33 ?_
    refine go_iadd dX12_addWord_34 ?_
    refine go_iload dX12_addWord_35 rfl ?_
    refine go_iadd dX12_addWord_37 ?_
    refine go_iloadn dX12_addWord_38 rfl ?_
    refine gm_iast dX12_addWord_39 H (fun hh1 H => ?_)
    refine go_aloadn dX12_addWord_40 rfl ?_
    refine gm_getR fd_X12_35 dX12_addWord_41 H (fun x5 H => ?_)
    refine go_bipush (v := (46 : Int32)) dX12_addWord_44 rfl ?_
    refine go_iloadn dX12_addWord_46 rfl ?_
    refine go_iadd dX12_addWord_47 ?_
    refine go_dup2IA dX12_addWord_48 ?_
    refine gm_iald dX12_addWord_49 H (fun x6 H => ?_)
    refine go_iconst (v := (1 : Int32)) dX12_addWord_50 rfl ?_
    refine go_iadd dX12_addWord_51 ?_
    refine gm_iast dX12_addWord_52 H (fun hh2 H => ?_)
    obtain rfl := Option.some.inj H
    exact go_return dX12_addWord_53 rfl
/-! X12_docLine -/
def b_X12_docLine_57 (v0 : Nat) (v2 : Int32) (k : Int32 → Hp → Option (Int32 × Hp)) (v3 : Int32) (h : Hp) : Option (Int32 × Hp) :=
  (gfI h v0 12 21).bind fun x1 => if x1 ≤ v3 then (some ((1 : Int32), h)) else (gfR h v0 12 20).bind fun x2 => (alI h x2 v3).bind fun x3 => (rc h v0 12 (m_X12_newToken v0 v2 x3 h)).bind fun x4 => (rc x4.2 v0 12 (m_X12_addWord v0 v2 x4.1 x4.2)).bind fun x5 => k (v3 + (1 : Int32)) x5
set_option maxRecDepth 20000 in
theorem okb_X12_docLine_57 {r : (Int32 × Hp)} (v0 : Nat) (v2 : Int32) (k : Int32 → Hp → Option (Int32 × Hp)) (v3 : Int32) (h : Hp) (Hk : ∀ (v3q : Int32) (hq : Hp), k v3q hq = some r → Go M_X12_docLine (some (aI r.1), r.2) 57 [some (aA v0), none, some (aI v2), some (aI v3q)] [] hq) (H : b_X12_docLine_57 v0 v2 k v3 h = some r) : Go M_X12_docLine (some (aI r.1), r.2) 57 [some (aA v0), none, some (aI v2), some (aI v3)] [] h := by
  unfold b_X12_docLine_57 at H
  refine go_iloadn dX12_docLine_57 rfl ?_
  refine go_aloadn dX12_docLine_58 rfl ?_
  refine gm_getI fd_X12_129 dX12_docLine_59 H (fun x1 H => ?_)
  refine go_icmp_ge (tgt := 87) dX12_docLine_62 (by decide) (fun c1 => ?_) (fun c1 => ?_)
  · replace H := (gm_ite H).1 c1
    refine go_iconst (v := (1 : Int32)) dX12_docLine_87 rfl ?_
    obtain rfl := Option.some.inj H
    exact go_ireturn (x := (1 : Int32)) dX12_docLine_88 (tyI_bool rfl (by decide))
  · replace H := (gm_ite H).2 c1
    refine go_aloadn dX12_docLine_65 rfl ?_
    refine go_iloadn dX12_docLine_66 rfl ?_
    refine go_aloadn dX12_docLine_67 rfl ?_
    refine go_iloadn dX12_docLine_68 rfl ?_
    refine go_aloadn dX12_docLine_69 rfl ?_
    refine gm_getR fd_X12_41 dX12_docLine_70 H (fun x2 H => ?_)
    refine go_iloadn dX12_docLine_73 rfl ?_
    refine gm_iald dX12_docLine_74 H (fun x3 H => ?_)
    obtain ⟨c2, x4, ex4, H⟩ := gm_rc H
    refine go_callV (vs := [aI v2, aI x3]) (stk := [aI v2, aA v0]) (o1 := (some (aI x4.1), x4.2)) mk_X12_newToken sv_X12_docLine_159 cl_X12 rfl dX12_docLine_75 c2 rfl rfl (Nat.le_of_ble_eq_true rfl) (Nat.le_of_ble_eq_true rfl) (ok_X12_newToken ex4) (show Go M_X12_docLine (some (aI r.1), r.2) 78 [some (aA v0), none, some (aI v2), some (aI v3)] [aI x4.1, aI v2, aA v0] x4.2 from ?_)
    obtain ⟨c3, x5, ex5, H⟩ := gm_rc H
    refine go_callV (vs := [aI v2, aI x4.1]) (stk := []) (o1 := (none, x5)) mk_X12_addWord sv_X12_docLine_162 cl_X12 rfl dX12_docLine_78 c3 rfl rfl (Nat.le_of_ble_eq_true rfl) (Nat.le_of_ble_eq_true rfl) (ok_X12_addWord ex5) (show Go M_X12_docLine (some (aI r.1), r.2) 81 [some (aA v0), none, some (aI v2), some (aI v3)] [] x5 from ?_)
    refine go_iinc (v := (v3 + (1 : Int32))) (loc2 := [some (aA v0), none, some (aI v2), some (aI (v3 + (1 : Int32)))]) dX12_docLine_81 rfl rfl (by decide) rfl ?_
    refine go_goto (tgt := 57) dX12_docLine_84 (by decide) ?_
    exact Hk (v3 + (1 : Int32)) x5 H
def l_X12_docLine_57 (v0 : Nat) (v2 : Int32) (v3 : Int32) (h : Hp) : Option (Int32 × Hp) := loopK FUEL (fun (k : Int32 × Hp → Option (Int32 × Hp)) (s : Int32 × Hp) => b_X12_docLine_57 v0 v2 (fun v3q hq => k (v3q, hq)) s.1 s.2) (v3, h)
theorem okl_X12_docLine_57 {r : (Int32 × Hp)} (v0 : Nat) (v2 : Int32) (v3 : Int32) (h : Hp) (H : l_X12_docLine_57 v0 v2 v3 h = some r) : Go M_X12_docLine (some (aI r.1), r.2) 57 [some (aA v0), none, some (aI v2), some (aI v3)] [] h := by
  unfold l_X12_docLine_57 at H
  exact go_loop (σ := Int32 × Hp) (body := (fun (k : Int32 × Hp → Option (Int32 × Hp)) (s : Int32 × Hp) => b_X12_docLine_57 v0 v2 (fun v3q hq => k (v3q, hq)) s.1 s.2)) (fun s => [some (aA v0), none, some (aI v2), some (aI s.1)]) (fun s => s.2) (fun k s Hk H => okb_X12_docLine_57 v0 v2 (fun v3q hq => k (v3q, hq)) s.1 s.2  (fun v3q hq H => Hk (v3q, hq) H) H) FUEL (v3, h) H
def j_X12_docLine_16 (v0 : Nat)  (h : Hp) : Option (Int32 × Hp) :=
  (rc h v0 12 (m_X12_token v0 h)).bind fun x1 => (rc x1 v0 12 (m_X12_takeWords v0 (20 : Int32) x1)).bind fun x2 => (gfI x2 v0 12 16).bind fun x3 => if ¬ x3 = 0 then (some ((1 : Int32), x2)) else (gfR x2 v0 12 18).bind fun x4 => (alI x2 x4 (0 : Int32)).bind fun x5 => (gfR x2 v0 12 18).bind fun x6 => (alI x2 x6 (0 : Int32)).bind fun x7 => (asI x2 x6 (0 : Int32) (x7 + (1 : Int32))).bind fun hh1 => (rc hh1 v0 12 (m_X12_beginVersion v0 x5 hh1)).bind fun x8 => l_X12_docLine_57 v0 x5 (0 : Int32) x8
set_option maxRecDepth 20000 in
theorem okj_X12_docLine_16 {r : (Int32 × Hp)} (v0 : Nat)  (h : Hp) (H : j_X12_docLine_16 v0 h = some r) : Go M_X12_docLine (some (aI r.1), r.2) 16 [some (aA v0), none, none, none] [] h := by
  unfold j_X12_docLine_16 at H
  refine go_aloadn dX12_docLine_16 rfl ?_
  obtain ⟨c1, x1, ex1, H⟩ := gm_rc H
  refine go_callV (vs := []) (stk := []) (o1 := (none, x1)) mk_X12_token sv_X12_docLine_124 cl_X12 rfl dX12_docLine_17 c1 rfl rfl (Nat.le_of_ble_eq_true rfl) (Nat.le_of_ble_eq_true rfl) (ok_X12_token ex1) (show Go M_X12_docLine (some (aI r.1), r.2) 20 [some (aA v0), none, none, none] [] x1 from ?_)
  refine go_aloadn dX12_docLine_20 rfl ?_
  refine go_bipush (v := (20 : Int32)) dX12_docLine_21 rfl ?_
  obtain ⟨c2, x2, ex2, H⟩ := gm_rc H
  refine go_callV (vs := [aI (20 : Int32)]) (stk := []) (o1 := (none, x2)) mk_X12_takeWords sv_X12_docLine_153 cl_X12 rfl dX12_docLine_23 c2 rfl rfl (Nat.le_of_ble_eq_true rfl) (Nat.le_of_ble_eq_true rfl) (ok_X12_takeWords ex2) (show Go M_X12_docLine (some (aI r.1), r.2) 26 [some (aA v0), none, none, none] [] x2 from ?_)
  refine go_aloadn dX12_docLine_26 rfl ?_
  refine gm_getI fd_X12_106 dX12_docLine_27 H (fun x3 H => ?_)
  refine go_if_ne (tgt := 87) dX12_docLine_30 (by decide) (fun c3 => ?_) (fun c3 => ?_)
  · replace H := (gm_ite H).1 c3
    refine go_iconst (v := (1 : Int32)) dX12_docLine_87 rfl ?_
    obtain rfl := Option.some.inj H
    exact go_ireturn (x := (1 : Int32)) dX12_docLine_88 (tyI_bool rfl (by decide))
  · replace H := (gm_ite H).2 c3
    refine go_aloadn dX12_docLine_33 rfl ?_
    refine gm_getR fd_X12_35 dX12_docLine_34 H (fun x4 H => ?_)
    refine go_iconst (v := (0 : Int32)) dX12_docLine_37 rfl ?_
    refine gm_iald dX12_docLine_38 H (fun x5 H => ?_)
    refine go_istoren (loc2 := [some (aA v0), none, some (aI x5), none]) dX12_docLine_39 rfl (by decide) rfl ?_
    refine go_aloadn dX12_docLine_40 rfl ?_
    refine gm_getR fd_X12_35 dX12_docLine_41 H (fun x6 H => ?_)
    refine go_iconst (v := (0 : Int32)) dX12_docLine_44 rfl ?_
    refine go_dup2IA dX12_docLine_45 ?_
    refine gm_iald dX12_docLine_46 H (fun x7 H => ?_)
    refine go_iconst (v := (1 : Int32)) dX12_docLine_47 rfl ?_
    refine go_iadd dX12_docLine_48 ?_
    refine gm_iast dX12_docLine_49 H (fun hh1 H => ?_)
    refine go_aloadn dX12_docLine_50 rfl ?_
    refine go_iloadn dX12_docLine_51 rfl ?_
    obtain ⟨c4, x8, ex8, H⟩ := gm_rc H
    refine go_callV (vs := [aI x5]) (stk := []) (o1 := (none, x8)) mk_X12_beginVersion sv_X12_docLine_156 cl_X12 rfl dX12_docLine_52 c4 rfl rfl (Nat.le_of_ble_eq_true rfl) (Nat.le_of_ble_eq_true rfl) (ok_X12_beginVersion ex8) (show Go M_X12_docLine (some (aI r.1), r.2) 55 [some (aA v0), none, some (aI x5), none] [] x8 from ?_)
    refine go_iconst (v := (0 : Int32)) dX12_docLine_55 rfl ?_
    refine go_istoren (loc2 := [some (aA v0), none, some (aI x5), some (aI (0 : Int32))]) dX12_docLine_56 rfl (by decide) rfl ?_
    exact okl_X12_docLine_57 v0 x5 (0 : Int32) x8 H
def m_X12_docLine (v0 : Nat) (v1 : Int32) (h : Hp) : Option (Int32 × Hp) :=
  (gfR h v0 12 18).bind fun x1 => (alI h x1 (0 : Int32)).bind fun x2 => if ¬ x2 = (4 : Int32) then j_X12_docLine_16 v0 h else (rc h v0 12 (m_X12_addsFault v0 (3 : Int32) v1 h)).bind fun x3 => j_X12_docLine_16 v0 x3
set_option maxRecDepth 20000 in
theorem ok_X12_docLine {r : (Int32 × Hp)} {v0 : Nat} {v1 : Int32} {h : Hp} (H : m_X12_docLine v0 v1 h = some r) : Ev M_X12_docLine [aA v0, aI v1] h (some (aI r.1), r.2) := by
  show Go M_X12_docLine (some (aI r.1), r.2) 0 [some (aA v0), some (aI v1), none, none] [] h
  unfold m_X12_docLine at H
  refine go_aloadn dX12_docLine_0 rfl ?_
  refine gm_getR fd_X12_35 dX12_docLine_1 H (fun x1 H => ?_)
  refine go_iconst (v := (0 : Int32)) dX12_docLine_4 rfl ?_
  refine gm_iald dX12_docLine_5 H (fun x2 H => ?_)
  refine go_iconst (v := (4 : Int32)) dX12_docLine_6 rfl ?_
  refine go_icmp_ne (tgt := 16) dX12_docLine_7 (by decide) (fun c1 => ?_) (fun c1 => ?_)
  · replace H := (gm_ite H).1 c1
    refine go_mask [true, false, false, false] (loc' := [some (aA v0), none, none, none]) rfl ?_
    exact okj_X12_docLine_16 v0 h  H
  · replace H := (gm_ite H).2 c1
    refine go_aloadn dX12_docLine_10 rfl ?_
    refine go_iconst (v := (3 : Int32)) dX12_docLine_11 rfl ?_
    refine go_iloadn dX12_docLine_12 rfl ?_
    obtain ⟨c2, x3, ex3, H⟩ := gm_rc H
    refine go_callV (vs := [aI (3 : Int32), aI v1]) (stk := []) (o1 := (none, x3)) mk_X12_addsFault sv_X12_docLine_116 cl_X12 rfl dX12_docLine_13 c2 rfl rfl (Nat.le_of_ble_eq_true rfl) (Nat.le_of_ble_eq_true rfl) (ok_X12_addsFault ex3) (show Go M_X12_docLine (some (aI r.1), r.2) 16 [some (aA v0), some (aI v1), none, none] [] x3 from ?_)
    refine go_mask [true, false, false, false] (loc' := [some (aA v0), none, none, none]) rfl ?_
    exact okj_X12_docLine_16 v0 x3  H
/-! X12_take -/
def j_X12_take_49 (v0 : Nat)  (h : Hp) : Option (Int32 × Hp) :=
  (rc h v0 12 (m_X12_token v0 h)).bind fun x1 => some ((1 : Int32), x1)
set_option maxRecDepth 20000 in
theorem okj_X12_take_49 {r : (Int32 × Hp)} (v0 : Nat)  (h : Hp) (H : j_X12_take_49 v0 h = some r) : Go M_X12_take (some (aI r.1), r.2) 49 [some (aA v0), none, none, none] [] h := by
  unfold j_X12_take_49 at H
  refine go_aloadn dX12_take_49 rfl ?_
  obtain ⟨c1, x1, ex1, H⟩ := gm_rc H
  refine go_callV (vs := []) (stk := []) (o1 := (none, x1)) mk_X12_token sv_X12_take_124 cl_X12 rfl dX12_take_50 c1 rfl rfl (Nat.le_of_ble_eq_true rfl) (Nat.le_of_ble_eq_true rfl) (ok_X12_token ex1) (show Go M_X12_take (some (aI r.1), r.2) 53 [some (aA v0), none, none, none] [] x1 from ?_)
  refine go_iconst (v := (1 : Int32)) dX12_take_53 rfl ?_
  obtain rfl := Option.some.inj H
  exact go_ireturn (x := (1 : Int32)) dX12_take_54 (tyI_bool rfl (by decide))
def m_X12_take (v0 : Nat) (v1 : Int32) (v2 : Int32) (v3 : Int32) (h : Hp) : Option (Int32 × Hp) :=
  (gfI h v0 12 12).bind fun x1 => if x1 = (3 : Int32) then ((gfR h v0 12 19).bind fun x2 => (gfI h v0 12 13).bind fun x3 => (asI h x2 v1 x3).bind fun hh1 => (gfI hh1 v0 12 13).bind fun x4 => (m_X12_in x4 v2 v3 hh1).bind fun x5 => if ¬ x5 = 0 then j_X12_take_49 v0 hh1 else (gfI hh1 v0 12 11).bind fun x6 => (rc hh1 v0 12 (m_X12_addsFault v0 (2 : Int32) x6 hh1)).bind fun x7 => (pfI x7 v0 12 22 (0 : Int32)).bind fun hh2 => j_X12_take_49 v0 hh2) else (rc h v0 12 (m_X12_fails v0 h)).bind fun x8 => (zb x8.1).bind fun x9 => some (x9, x8.2)
set_option maxRecDepth 20000 in
theorem ok_X12_take {r : (Int32 × Hp)} {v0 : Nat} {v1 : Int32} {v2 : Int32} {v3 : Int32} {h : Hp} (H : m_X12_take v0 v1 v2 v3 h = some r) : Ev M_X12_take [aA v0, aI v1, aI v2, aI v3] h (some (aI r.1), r.2) := by
  show Go M_X12_take (some (aI r.1), r.2) 0 [some (aA v0), some (aI v1), some (aI v2), some (aI v3)] [] h
  unfold m_X12_take at H
  refine go_aloadn dX12_take_0 rfl ?_
  refine gm_getI fd_X12_97 dX12_take_1 H (fun x1 H => ?_)
  refine go_iconst (v := (3 : Int32)) dX12_take_4 rfl ?_
  refine go_icmp_eq (tgt := 13) dX12_take_5 (by decide) (fun c1 => ?_) (fun c1 => ?_)
  · replace H := (gm_ite H).1 c1
    refine go_aloadn dX12_take_13 rfl ?_
    refine gm_getR fd_X12_38 dX12_take_14 H (fun x2 H => ?_)
    refine go_iloadn dX12_take_17 rfl ?_
    refine go_aloadn dX12_take_18 rfl ?_
    refine gm_getI fd_X12_100 dX12_take_19 H (fun x3 H => ?_)
    refine gm_iast dX12_take_22 H (fun hh1 H => ?_)
    refine go_aloadn dX12_take_23 rfl ?_
    refine gm_getI fd_X12_100 dX12_take_24 H (fun x4 H => ?_)
    refine go_iloadn dX12_take_27 rfl ?_
    refine go_iloadn dX12_take_28 rfl ?_
    obtain ⟨x5, ex5, H⟩ := bind_some H
    refine go_callS (vs := [aI x4, aI v2, aI v3]) (stk := []) (o1 := (some (aI x5), hh1)) mk_X12_in ss_X12_take_72 dX12_take_29 rfl rfl (Nat.le_of_ble_eq_true rfl) (Nat.le_of_ble_eq_true rfl) (ok_X12_in ex5) (show Go M_X12_take (some (aI r.1), r.2) 32 [some (aA v0), some (aI v1), some (aI v2), some (aI v3)] [aI x5] hh1 from ?_)
    refine go_if_ne (tgt := 49) dX12_take_32 (by decide) (fun c3 => ?_) (fun c3 => ?_)
    · replace H := (gm_ite H).1 c3
      refine go_mask [true, false, false, false] (loc' := [some (aA v0), none, none, none]) rfl ?_
      exact okj_X12_take_49 v0 hh1  H
    · replace H := (gm_ite H).2 c3
      refine go_aloadn dX12_take_35 rfl ?_
      refine go_iconst (v := (2 : Int32)) dX12_take_36 rfl ?_
      refine go_aloadn dX12_take_37 rfl ?_
      refine gm_getI fd_X12_90 dX12_take_38 H (fun x6 H => ?_)
      obtain ⟨c4, x7, ex7, H⟩ := gm_rc H
      refine go_callV (vs := [aI (2 : Int32), aI x6]) (stk := []) (o1 := (none, x7)) mk_X12_addsFault sv_X12_take_116 cl_X12 rfl dX12_take_41 c4 rfl rfl (Nat.le_of_ble_eq_true rfl) (Nat.le_of_ble_eq_true rfl) (ok_X12_addsFault ex7) (show Go M_X12_take (some (aI r.1), r.2) 44 [some (aA v0), some (aI v1), some (aI v2), some (aI v3)] [] x7 from ?_)
      refine go_aloadn dX12_take_44 rfl ?_
      refine go_iconst (v := (0 : Int32)) dX12_take_45 rfl ?_
      refine gm_putZ fd_X12_120 (Or.inl rfl) (by decide) dX12_take_46 H (fun hh2 H => ?_)
      refine go_mask [true, false, false, false] (loc' := [some (aA v0), none, none, none]) rfl ?_
      exact okj_X12_take_49 v0 hh2  H
  · replace H := (gm_ite H).2 c1
    refine go_aloadn dX12_take_8 rfl ?_
    obtain ⟨c5, x8, ex8, H⟩ := gm_rc H
    refine go_callV (vs := []) (stk := []) (o1 := (some (aI x8.1), x8.2)) mk_X12_fails sv_X12_take_112 cl_X12 rfl dX12_take_9 c5 rfl rfl (Nat.le_of_ble_eq_true rfl) (Nat.le_of_ble_eq_true rfl) (ok_X12_fails ex8) (show Go M_X12_take (some (aI r.1), r.2) 12 [some (aA v0), some (aI v1), some (aI v2), some (aI v3)] [aI x8.1] x8.2 from ?_)
    obtain ⟨hz, H⟩ := gm_zb H
    obtain rfl := Option.some.inj H
    exact go_ireturn (x := x8.1) dX12_take_12 (tyI_bool rfl hz)
/-! X12_readPut -/
def j_X12_readPut_57 (v0 : Nat) (s0 : Int32) (h : Hp) : Option (Int32 × Hp) :=
  (rc h v0 12 (m_X12_takeWords v0 ((20 : Int32) - s0) h)).bind fun x1 => some ((1 : Int32), x1)
set_option maxRecDepth 20000 in
theorem okj_X12_readPut_57 {r : (Int32 × Hp)} (v0 : Nat) (s0 : Int32) (h : Hp) (H : j_X12_readPut_57 v0 s0 h = some r) : Go M_X12_readPut (some (aI r.1), r.2) 57 [some (aA v0), none] [aI s0] h := by
  unfold j_X12_readPut_57 at H
  refine go_istoren (loc2 := [some (aA v0), some (aI s0)]) dX12_readPut_57 rfl (by decide) rfl ?_
  refine go_aloadn dX12_readPut_58 rfl ?_
  refine go_bipush (v := (20 : Int32)) dX12_readPut_59 rfl ?_
  refine go_iloadn dX12_readPut_61 rfl ?_
  refine go_isub dX12_readPut_62 ?_
  obtain ⟨c1, x1, ex1, H⟩ := gm_rc H
  refine go_callV (vs := [aI ((20 : Int32) - s0)]) (stk := []) (o1 := (none, x1)) mk_X12_takeWords sv_X12_readPut_153 cl_X12 rfl dX12_readPut_63 c1 rfl rfl (Nat.le_of_ble_eq_true rfl) (Nat.le_of_ble_eq_true rfl) (ok_X12_takeWords ex1) (show Go M_X12_readPut (some (aI r.1), r.2) 66 [some (aA v0), some (aI s0)] [] x1 from ?_)
  refine go_iconst (v := (1 : Int32)) dX12_readPut_66 rfl ?_
  obtain rfl := Option.some.inj H
  exact go_ireturn (x := (1 : Int32)) dX12_readPut_67 (tyI_bool rfl (by decide))
def m_X12_readPut (v0 : Nat) (h : Hp) : Option (Int32 × Hp) :=
  (rc h v0 12 (m_X12_take v0 (1 : Int32) (0 : Int32) (20 : Int32) h)).bind fun x1 => if ¬ x1.1 = 0 then ((gfI x1.2 v0 12 22).bind fun x2 => if x2 = 0 then j_X12_readPut_57 v0 (0 : Int32) x1.2 else (gfR x1.2 v0 12 19).bind fun x3 => (alI x1.2 x3 (0 : Int32)).bind fun x4 => (gfR x1.2 v0 12 18).bind fun x5 => (alI x1.2 x5 (0 : Int32)).bind fun x6 => if x6 ≤ x4 then j_X12_readPut_57 v0 (0 : Int32) x1.2 else (gfR x1.2 v0 12 18).bind fun x7 => (gfR x1.2 v0 12 19).bind fun x8 => (alI x1.2 x8 (0 : Int32)).bind fun x9 => (rc x1.2 v0 12 (m_X12_latest v0 x9 x1.2)).bind fun x10 => (alI x1.2 x7 ((46 : Int32) + x10)).bind fun x11 => j_X12_readPut_57 v0 x11 x1.2) else some ((0 : Int32), x1.2)
set_option maxRecDepth 20000 in
theorem ok_X12_readPut {r : (Int32 × Hp)} {v0 : Nat} {h : Hp} (H : m_X12_readPut v0 h = some r) : Ev M_X12_readPut [aA v0] h (some (aI r.1), r.2) := by
  show Go M_X12_readPut (some (aI r.1), r.2) 0 [some (aA v0), none] [] h
  unfold m_X12_readPut at H
  refine go_aloadn dX12_readPut_0 rfl ?_
  refine go_iconst (v := (1 : Int32)) dX12_readPut_1 rfl ?_
  refine go_iconst (v := (0 : Int32)) dX12_readPut_2 rfl ?_
  refine go_bipush (v := (20 : Int32)) dX12_readPut_3 rfl ?_
  obtain ⟨c1, x1, ex1, H⟩ := gm_rc H
  refine go_callV (vs := [aI (1 : Int32), aI (0 : Int32), aI (20 : Int32)]) (stk := []) (o1 := (some (aI x1.1), x1.2)) mk_X12_take sv_X12_readPut_177 cl_X12 rfl dX12_readPut_5 c1 rfl rfl (Nat.le_of_ble_eq_true rfl) (Nat.le_of_ble_eq_true rfl) (ok_X12_take ex1) (show Go M_X12_readPut (some (aI r.1), r.2) 8 [some (aA v0), none] [aI x1.1] x1.2 from ?_)
  refine go_if_ne (tgt := 13) dX12_readPut_8 (by decide) (fun c2 => ?_) (fun c2 => ?_)
  · replace H := (gm_ite H).1 c2
    refine go_aloadn dX12_readPut_13 rfl ?_
    refine gm_getI fd_X12_120 dX12_readPut_14 H (fun x2 H => ?_)
    refine go_if_eq (tgt := 56) dX12_readPut_17 (by decide) (fun c3 => ?_) (fun c3 => ?_)
    · replace H := (gm_ite H).1 c3
      refine go_iconst (v := (0 : Int32)) dX12_readPut_56 rfl ?_
      exact okj_X12_readPut_57 v0 (0 : Int32) x1.2  H
    · replace H := (gm_ite H).2 c3
      refine go_aloadn dX12_readPut_20 rfl ?_
      refine gm_getR fd_X12_38 dX12_readPut_21 H (fun x3 H => ?_)
      refine go_iconst (v := (0 : Int32)) dX12_readPut_24 rfl ?_
      refine gm_iald dX12_readPut_25 H (fun x4 H => ?_)
      refine go_aloadn dX12_readPut_26 rfl ?_
      refine gm_getR fd_X12_35 dX12_readPut_27 H (fun x5 H => ?_)
      refine go_iconst (v := (0 : Int32)) dX12_readPut_30 rfl ?_
      refine gm_iald dX12_readPut_31 H (fun x6 H => ?_)
      refine go_icmp_ge (tgt := 56) dX12_readPut_32 (by decide) (fun c4 => ?_) (fun c4 => ?_)
      · replace H := (gm_ite H).1 c4
        refine go_iconst (v := (0 : Int32)) dX12_readPut_56 rfl ?_
        exact okj_X12_readPut_57 v0 (0 : Int32) x1.2  H
      · replace H := (gm_ite H).2 c4
        refine go_aloadn dX12_readPut_35 rfl ?_
        refine gm_getR fd_X12_35 dX12_readPut_36 H (fun x7 H => ?_)
        refine go_bipush (v := (46 : Int32)) dX12_readPut_39 rfl ?_
        refine go_aloadn dX12_readPut_41 rfl ?_
        refine go_aloadn dX12_readPut_42 rfl ?_
        refine gm_getR fd_X12_38 dX12_readPut_43 H (fun x8 H => ?_)
        refine go_iconst (v := (0 : Int32)) dX12_readPut_46 rfl ?_
        refine gm_iald dX12_readPut_47 H (fun x9 H => ?_)
        obtain ⟨c5, x10, ex10, H⟩ := gm_rc H
        refine go_callV (vs := [aI x9]) (stk := [aI (46 : Int32), aA x7]) (o1 := (some (aI x10), x1.2)) mk_X12_latest sv_X12_readPut_139 cl_X12 rfl dX12_readPut_48 c5 rfl rfl (Nat.le_of_ble_eq_true rfl) (Nat.le_of_ble_eq_true rfl) (ok_X12_latest ex10) (show Go M_X12_readPut (some (aI r.1), r.2) 51 [some (aA v0), none] [aI x10, aI (46 : Int32), aA x7] x1.2 from ?_)
        refine go_iadd dX12_readPut_51 ?_
        refine gm_iald dX12_readPut_52 H (fun x11 H => ?_)
        refine go_goto (tgt := 57) dX12_readPut_53 (by decide) ?_
        exact okj_X12_readPut_57 v0 x11 x1.2  H
  · replace H := (gm_ite H).2 c2
    refine go_iconst (v := (0 : Int32)) dX12_readPut_11 rfl ?_
    obtain rfl := Option.some.inj H
    exact go_ireturn (x := (0 : Int32)) dX12_readPut_12 (tyI_bool rfl (by decide))
/-! X12_readChange -/
def j_X12_readChange_72  (s0 : Int32) (h : Hp) : Option (Int32 × Hp) :=
  (zb s0).bind fun x1 => some (x1, h)
set_option maxRecDepth 20000 in
theorem okj_X12_readChange_72 {r : (Int32 × Hp)}  (s0 : Int32) (h : Hp) (H : j_X12_readChange_72 s0 h = some r) : Go M_X12_readChange (some (aI r.1), r.2) 72 [none, none] [aI s0] h := by
  unfold j_X12_readChange_72 at H
  obtain ⟨hz, H⟩ := gm_zb H
  obtain rfl := Option.some.inj H
  exact go_ireturn (x := s0) dX12_readChange_72 (tyI_bool rfl hz)
def j_X12_readChange_100  (s0 : Int32) (h : Hp) : Option (Int32 × Hp) :=
  (zb s0).bind fun x1 => some (x1, h)
set_option maxRecDepth 20000 in
theorem okj_X12_readChange_100 {r : (Int32 × Hp)}  (s0 : Int32) (h : Hp) (H : j_X12_readChange_100 s0 h = some r) : Go M_X12_readChange (some (aI r.1), r.2) 100 [none, none] [aI s0] h := by
  unfold j_X12_readChange_100 at H
  obtain ⟨hz, H⟩ := gm_zb H
  obtain rfl := Option.some.inj H
  exact go_ireturn (x := s0) dX12_readChange_100 (tyI_bool rfl hz)
def m_X12_readChange (v0 : Nat) (v1 : Int32) (h : Hp) : Option (Int32 × Hp) :=
  (rc h v0 12 (m_X12_take v0 (0 : Int32) (0 : Int32) (3 : Int32) h)).bind fun x1 => if ¬ x1.1 = 0 then (if v1 = (0 : Int32) then ((rc x1.2 v0 12 (m_X12_readPut v0 x1.2)).bind fun x2 => (zb x2.1).bind fun x3 => some (x3, x2.2)) else if v1 = (1 : Int32) then ((rc x1.2 v0 12 (m_X12_take v0 (1 : Int32) (0 : Int32) (19 : Int32) x1.2)).bind fun x4 => if x4.1 = 0 then j_X12_readChange_72 (0 : Int32) x4.2 else (rc x4.2 v0 12 (m_X12_take v0 (2 : Int32) (1 : Int32) (20 : Int32) x4.2)).bind fun x5 => j_X12_readChange_72 (if x5.1 = 0 then (0 : Int32) else (1 : Int32)) x5.2) else if v1 = (2 : Int32) then ((rc x1.2 v0 12 (m_X12_take v0 (1 : Int32) (0 : Int32) (19 : Int32) x1.2)).bind fun x6 => if x6.1 = 0 then j_X12_readChange_100 (0 : Int32) x6.2 else (rc x6.2 v0 12 (m_X12_take v0 (2 : Int32) (0 : Int32) (19 : Int32) x6.2)).bind fun x7 => j_X12_readChange_100 (if x7.1 = 0 then (0 : Int32) else (1 : Int32)) x7.2) else (rc x1.2 v0 12 (m_X12_take v0 (1 : Int32) (0 : Int32) (9 : Int32) x1.2)).bind fun x8 => (zb x8.1).bind fun x9 => some (x9, x8.2)) else some ((0 : Int32), x1.2)
set_option maxRecDepth 20000 in
theorem ok_X12_readChange {r : (Int32 × Hp)} {v0 : Nat} {v1 : Int32} {h : Hp} (H : m_X12_readChange v0 v1 h = some r) : Ev M_X12_readChange [aA v0, aI v1] h (some (aI r.1), r.2) := by
  show Go M_X12_readChange (some (aI r.1), r.2) 0 [some (aA v0), some (aI v1)] [] h
  unfold m_X12_readChange at H
  refine go_aloadn dX12_readChange_0 rfl ?_
  refine go_iconst (v := (0 : Int32)) dX12_readChange_1 rfl ?_
  refine go_iconst (v := (0 : Int32)) dX12_readChange_2 rfl ?_
  refine go_iconst (v := (3 : Int32)) dX12_readChange_3 rfl ?_
  obtain ⟨c1, x1, ex1, H⟩ := gm_rc H
  refine go_callV (vs := [aI (0 : Int32), aI (0 : Int32), aI (3 : Int32)]) (stk := []) (o1 := (some (aI x1.1), x1.2)) mk_X12_take sv_X12_readChange_177 cl_X12 rfl dX12_readChange_4 c1 rfl rfl (Nat.le_of_ble_eq_true rfl) (Nat.le_of_ble_eq_true rfl) (ok_X12_take ex1) (show Go M_X12_readChange (some (aI r.1), r.2) 7 [some (aA v0), some (aI v1)] [aI x1.1] x1.2 from ?_)
  refine go_if_ne (tgt := 12) dX12_readChange_7 (by decide) (fun c2 => ?_) (fun c2 => ?_)
  · replace H := (gm_ite H).1 c2
    refine go_iloadn dX12_readChange_12 rfl ?_
    by_cases c3 : v1 = (0 : Int32)
    · replace H := (gm_ite H).1 c3
      refine go_eqI c3 ?_
      refine go_tableIn (tgt := 40) dX12_readChange_13 (by decide) (by decide) rfl (by decide) ?_
      refine go_aloadn dX12_readChange_40 rfl ?_
      obtain ⟨c4, x2, ex2, H⟩ := gm_rc H
      refine go_callV (vs := []) (stk := []) (o1 := (some (aI x2.1), x2.2)) mk_X12_readPut sv_X12_readChange_180 cl_X12 rfl dX12_readChange_41 c4 rfl rfl (Nat.le_of_ble_eq_true rfl) (Nat.le_of_ble_eq_true rfl) (ok_X12_readPut ex2) (show Go M_X12_readChange (some (aI r.1), r.2) 44 [some (aA v0), some (aI v1)] [aI x2.1] x2.2 from ?_)
      obtain ⟨hz, H⟩ := gm_zb H
      obtain rfl := Option.some.inj H
      exact go_ireturn (x := x2.1) dX12_readChange_44 (tyI_bool rfl hz)
    · replace H := (gm_ite H).2 c3
      by_cases c5 : v1 = (1 : Int32)
      · replace H := (gm_ite H).1 c5
        refine go_eqI c5 ?_
        refine go_tableIn (tgt := 45) dX12_readChange_13 (by decide) (by decide) rfl (by decide) ?_
        refine go_aloadn dX12_readChange_45 rfl ?_
        refine go_iconst (v := (1 : Int32)) dX12_readChange_46 rfl ?_
        refine go_iconst (v := (0 : Int32)) dX12_readChange_47 rfl ?_
        refine go_bipush (v := (19 : Int32)) dX12_readChange_48 rfl ?_
        obtain ⟨c6, x4, ex4, H⟩ := gm_rc H
        refine go_callV (vs := [aI (1 : Int32), aI (0 : Int32), aI (19 : Int32)]) (stk := []) (o1 := (some (aI x4.1), x4.2)) mk_X12_take sv_X12_readChange_177 cl_X12 rfl dX12_readChange_50 c6 rfl rfl (Nat.le_of_ble_eq_true rfl) (Nat.le_of_ble_eq_true rfl) (ok_X12_take ex4) (show Go M_X12_readChange (some (aI r.1), r.2) 53 [some (aA v0), some (aI v1)] [aI x4.1] x4.2 from ?_)
        refine go_if_eq (tgt := 71) dX12_readChange_53 (by decide) (fun c7 => ?_) (fun c7 => ?_)
        · replace H := (gm_ite H).1 c7
          refine go_iconst (v := (0 : Int32)) dX12_readChange_71 rfl ?_
          refine go_mask [false, false] (loc' := [none, none]) rfl ?_
          exact okj_X12_readChange_72 (0 : Int32) x4.2  H
        · replace H := (gm_ite H).2 c7
          refine go_aloadn dX12_readChange_56 rfl ?_
          refine go_iconst (v := (2 : Int32)) dX12_readChange_57 rfl ?_
          refine go_iconst (v := (1 : Int32)) dX12_readChange_58 rfl ?_
          refine go_bipush (v := (20 : Int32)) dX12_readChange_59 rfl ?_
          obtain ⟨c8, x5, ex5, H⟩ := gm_rc H
          refine go_callV (vs := [aI (2 : Int32), aI (1 : Int32), aI (20 : Int32)]) (stk := []) (o1 := (some (aI x5.1), x5.2)) mk_X12_take sv_X12_readChange_177 cl_X12 rfl dX12_readChange_61 c8 rfl rfl (Nat.le_of_ble_eq_true rfl) (Nat.le_of_ble_eq_true rfl) (ok_X12_take ex5) (show Go M_X12_readChange (some (aI r.1), r.2) 64 [some (aA v0), some (aI v1)] [aI x5.1] x5.2 from ?_)
          refine go_if_eq (tgt := 71) dX12_readChange_64 (by decide) (fun c9 => ?_) (fun c9 => ?_)
          · rw [if_pos c9] at H
            refine go_iconst (v := (0 : Int32)) dX12_readChange_71 rfl ?_
            refine go_mask [false, false] (loc' := [none, none]) rfl ?_
            exact okj_X12_readChange_72 (0 : Int32) x5.2  H
          · rw [if_neg c9] at H
            refine go_iconst (v := (1 : Int32)) dX12_readChange_67 rfl ?_
            refine go_goto (tgt := 72) dX12_readChange_68 (by decide) ?_
            refine go_mask [false, false] (loc' := [none, none]) rfl ?_
            exact okj_X12_readChange_72 (1 : Int32) x5.2  H
      · replace H := (gm_ite H).2 c5
        by_cases c10 : v1 = (2 : Int32)
        · replace H := (gm_ite H).1 c10
          refine go_eqI c10 ?_
          refine go_tableIn (tgt := 73) dX12_readChange_13 (by decide) (by decide) rfl (by decide) ?_
          refine go_aloadn dX12_readChange_73 rfl ?_
          refine go_iconst (v := (1 : Int32)) dX12_readChange_74 rfl ?_
          refine go_iconst (v := (0 : Int32)) dX12_readChange_75 rfl ?_
          refine go_bipush (v := (19 : Int32)) dX12_readChange_76 rfl ?_
          obtain ⟨c11, x6, ex6, H⟩ := gm_rc H
          refine go_callV (vs := [aI (1 : Int32), aI (0 : Int32), aI (19 : Int32)]) (stk := []) (o1 := (some (aI x6.1), x6.2)) mk_X12_take sv_X12_readChange_177 cl_X12 rfl dX12_readChange_78 c11 rfl rfl (Nat.le_of_ble_eq_true rfl) (Nat.le_of_ble_eq_true rfl) (ok_X12_take ex6) (show Go M_X12_readChange (some (aI r.1), r.2) 81 [some (aA v0), some (aI v1)] [aI x6.1] x6.2 from ?_)
          refine go_if_eq (tgt := 99) dX12_readChange_81 (by decide) (fun c12 => ?_) (fun c12 => ?_)
          · replace H := (gm_ite H).1 c12
            refine go_iconst (v := (0 : Int32)) dX12_readChange_99 rfl ?_
            refine go_mask [false, false] (loc' := [none, none]) rfl ?_
            exact okj_X12_readChange_100 (0 : Int32) x6.2  H
          · replace H := (gm_ite H).2 c12
            refine go_aloadn dX12_readChange_84 rfl ?_
            refine go_iconst (v := (2 : Int32)) dX12_readChange_85 rfl ?_
            refine go_iconst (v := (0 : Int32)) dX12_readChange_86 rfl ?_
            refine go_bipush (v := (19 : Int32)) dX12_readChange_87 rfl ?_
            obtain ⟨c13, x7, ex7, H⟩ := gm_rc H
            refine go_callV (vs := [aI (2 : Int32), aI (0 : Int32), aI (19 : Int32)]) (stk := []) (o1 := (some (aI x7.1), x7.2)) mk_X12_take sv_X12_readChange_177 cl_X12 rfl dX12_readChange_89 c13 rfl rfl (Nat.le_of_ble_eq_true rfl) (Nat.le_of_ble_eq_true rfl) (ok_X12_take ex7) (show Go M_X12_readChange (some (aI r.1), r.2) 92 [some (aA v0), some (aI v1)] [aI x7.1] x7.2 from ?_)
            refine go_if_eq (tgt := 99) dX12_readChange_92 (by decide) (fun c14 => ?_) (fun c14 => ?_)
            · rw [if_pos c14] at H
              refine go_iconst (v := (0 : Int32)) dX12_readChange_99 rfl ?_
              refine go_mask [false, false] (loc' := [none, none]) rfl ?_
              exact okj_X12_readChange_100 (0 : Int32) x7.2  H
            · rw [if_neg c14] at H
              refine go_iconst (v := (1 : Int32)) dX12_readChange_95 rfl ?_
              refine go_goto (tgt := 100) dX12_readChange_96 (by decide) ?_
              refine go_mask [false, false] (loc' := [none, none]) rfl ?_
              exact okj_X12_readChange_100 (1 : Int32) x7.2  H
        · replace H := (gm_ite H).2 c10
          refine go_tableOut (tgt := 101) dX12_readChange_13 (sw_out (fun i h1 h2 e => ?_)) (by decide) ?_
          · have h3 : i = 0 ∨ i = 1 ∨ i = 2 := by omega
            rcases h3 with rfl | rfl | rfl
            · exact sw_ne c3 (by decide) e
            · exact sw_ne c5 (by decide) e
            · exact sw_ne c10 (by decide) e
          · skip
            refine go_aloadn dX12_readChange_101 rfl ?_
            refine go_iconst (v := (1 : Int32)) dX12_readChange_102 rfl ?_
            refine go_iconst (v := (0 : Int32)) dX12_readChange_103 rfl ?_
            refine go_bipush (v := (9 : Int32)) dX12_readChange_104 rfl ?_
            obtain ⟨c15, x8, ex8, H⟩ := gm_rc H
            refine go_callV (vs := [aI (1 : Int32), aI (0 : Int32), aI (9 : Int32)]) (stk := []) (o1 := (some (aI x8.1), x8.2)) mk_X12_take sv_X12_readChange_177 cl_X12 rfl dX12_readChange_106 c15 rfl rfl (Nat.le_of_ble_eq_true rfl) (Nat.le_of_ble_eq_true rfl) (ok_X12_take ex8) (show Go M_X12_readChange (some (aI r.1), r.2) 109 [some (aA v0), some (aI v1)] [aI x8.1] x8.2 from ?_)
            obtain ⟨hz, H⟩ := gm_zb H
            obtain rfl := Option.some.inj H
            exact go_ireturn (x := x8.1) dX12_readChange_109 (tyI_bool rfl hz)
  · replace H := (gm_ite H).2 c2
    refine go_iconst (v := (0 : Int32)) dX12_readChange_10 rfl ?_
    obtain rfl := Option.some.inj H
    exact go_ireturn (x := (0 : Int32)) dX12_readChange_11 (tyI_bool rfl (by decide))
/-! X12_isThere -/
def j_X12_isThere_63  (s0 : Int32) (h : Hp) : Option Int32 :=
  (zb s0).bind fun x1 => some x1
set_option maxRecDepth 20000 in
theorem okj_X12_isThere_63 {r : Int32}  (s0 : Int32) (h : Hp) (H : j_X12_isThere_63 s0 h = some r) : Go M_X12_isThere (some (aI r), h) 63 [none, none, none] [aI s0] h := by
  unfold j_X12_isThere_63 at H
  obtain ⟨hz, H⟩ := gm_zb H
  obtain rfl := Option.some.inj H
  exact go_ireturn (x := s0) dX12_isThere_63 (tyI_bool rfl hz)
def j_X12_isThere_86  (s0 : Int32) (h : Hp) : Option Int32 :=
  (zb s0).bind fun x1 => some x1
set_option maxRecDepth 20000 in
theorem okj_X12_isThere_86 {r : Int32}  (s0 : Int32) (h : Hp) (H : j_X12_isThere_86 s0 h = some r) : Go M_X12_isThere (some (aI r), h) 86 [none, none, none] [aI s0] h := by
  unfold j_X12_isThere_86 at H
  obtain ⟨hz, H⟩ := gm_zb H
  obtain rfl := Option.some.inj H
  exact go_ireturn (x := s0) dX12_isThere_86 (tyI_bool rfl hz)
def j_X12_isThere_112  (s0 : Int32) (h : Hp) : Option Int32 :=
  (zb s0).bind fun x1 => some x1
set_option maxRecDepth 20000 in
theorem okj_X12_isThere_112 {r : Int32}  (s0 : Int32) (h : Hp) (H : j_X12_isThere_112 s0 h = some r) : Go M_X12_isThere (some (aI r), h) 112 [none, none, none] [aI s0] h := by
  unfold j_X12_isThere_112 at H
  obtain ⟨hz, H⟩ := gm_zb H
  obtain rfl := Option.some.inj H
  exact go_ireturn (x := s0) dX12_isThere_112 (tyI_bool rfl hz)
def j_X12_isThere_140  (s0 : Int32) (h : Hp) : Option Int32 :=
  (zb s0).bind fun x1 => some x1
set_option maxRecDepth 20000 in
theorem okj_X12_isThere_140 {r : Int32}  (s0 : Int32) (h : Hp) (H : j_X12_isThere_140 s0 h = some r) : Go M_X12_isThere (some (aI r), h) 140 [none, none, none] [aI s0] h := by
  unfold j_X12_isThere_140 at H
  obtain ⟨hz, H⟩ := gm_zb H
  obtain rfl := Option.some.inj H
  exact go_ireturn (x := s0) dX12_isThere_140 (tyI_bool rfl hz)
def m_X12_isThere (v0 : Nat) (v1 : Int32) (h : Hp) : Option Int32 :=
  (gfR h v0 12 18).bind fun x1 => (gfR h v0 12 19).bind fun x2 => (alI h x2 (0 : Int32)).bind fun x3 => (rc h v0 12 (m_X12_latest v0 x3 h)).bind fun x4 => (alI h x1 ((46 : Int32) + x4)).bind fun x5 => if v1 = (0 : Int32) then ((gfR h v0 12 19).bind fun x6 => (alI h x6 (1 : Int32)).bind fun x7 => j_X12_isThere_63 (if x5 < x7 then (0 : Int32) else (1 : Int32)) h) else if v1 = (1 : Int32) then ((gfR h v0 12 19).bind fun x8 => (alI h x8 (1 : Int32)).bind fun x9 => (gfR h v0 12 19).bind fun x10 => (alI h x10 (2 : Int32)).bind fun x11 => j_X12_isThere_86 (if x5 < (x9 + x11) then (0 : Int32) else (1 : Int32)) h) else if v1 = (2 : Int32) then ((gfR h v0 12 19).bind fun x12 => (alI h x12 (1 : Int32)).bind fun x13 => if x5 ≤ x13 then j_X12_isThere_112 (0 : Int32) h else (gfR h v0 12 19).bind fun x14 => (alI h x14 (2 : Int32)).bind fun x15 => j_X12_isThere_112 (if x5 ≤ x15 then (0 : Int32) else (1 : Int32)) h) else (gfR h v0 12 19).bind fun x16 => (alI h x16 (1 : Int32)).bind fun x17 => (gfR h v0 12 18).bind fun x18 => (gfR h v0 12 19).bind fun x19 => (alI h x19 (0 : Int32)).bind fun x20 => (alI h x18 ((1 : Int32) + x20)).bind fun x21 => j_X12_isThere_140 (if x21 ≤ x17 then (0 : Int32) else (1 : Int32)) h
set_option maxRecDepth 20000 in
theorem ok_X12_isThere {r : Int32} {v0 : Nat} {v1 : Int32} {h : Hp} (H : m_X12_isThere v0 v1 h = some r) : Ev M_X12_isThere [aA v0, aI v1] h (some (aI r), h) := by
  show Go M_X12_isThere (some (aI r), h) 0 [some (aA v0), some (aI v1), none] [] h
  unfold m_X12_isThere at H
  refine go_aloadn dX12_isThere_0 rfl ?_
  refine gm_getR fd_X12_35 dX12_isThere_1 H (fun x1 H => ?_)
  refine go_bipush (v := (46 : Int32)) dX12_isThere_4 rfl ?_
  refine go_aloadn dX12_isThere_6 rfl ?_
  refine go_aloadn dX12_isThere_7 rfl ?_
  refine gm_getR fd_X12_38 dX12_isThere_8 H (fun x2 H => ?_)
  refine go_iconst (v := (0 : Int32)) dX12_isThere_11 rfl ?_
  refine gm_iald dX12_isThere_12 H (fun x3 H => ?_)
  obtain ⟨c1, x4, ex4, H⟩ := gm_rc H
  refine go_callV (vs := [aI x3]) (stk := [aI (46 : Int32), aA x1]) (o1 := (some (aI x4), h)) mk_X12_latest sv_X12_isThere_139 cl_X12 rfl dX12_isThere_13 c1 rfl rfl (Nat.le_of_ble_eq_true rfl) (Nat.le_of_ble_eq_true rfl) (ok_X12_latest ex4) (show Go M_X12_isThere (some (aI r), h) 16 [some (aA v0), some (aI v1), none] [aI x4, aI (46 : Int32), aA x1] h from ?_)
  refine go_iadd dX12_isThere_16 ?_
  refine gm_iald dX12_isThere_17 H (fun x5 H => ?_)
  refine go_istoren (loc2 := [some (aA v0), some (aI v1), some (aI x5)]) dX12_isThere_18 rfl (by decide) rfl ?_
  refine go_iloadn dX12_isThere_19 rfl ?_
  by_cases c2 : v1 = (0 : Int32)
  · replace H := (gm_ite H).1 c2
    refine go_eqI c2 ?_
    refine go_tableIn (tgt := 48) dX12_isThere_20 (by decide) (by decide) rfl (by decide) ?_
    refine go_aloadn dX12_isThere_48 rfl ?_
    refine gm_getR fd_X12_38 dX12_isThere_49 H (fun x6 H => ?_)
    refine go_iconst (v := (1 : Int32)) dX12_isThere_52 rfl ?_
    refine gm_iald dX12_isThere_53 H (fun x7 H => ?_)
    refine go_iloadn dX12_isThere_54 rfl ?_
    refine go_icmp_gt (tgt := 62) dX12_isThere_55 (by decide) (fun c3 => ?_) (fun c3 => ?_)
    · rw [if_pos c3] at H
      refine go_iconst (v := (0 : Int32)) dX12_isThere_62 rfl ?_
      refine go_mask [false, false, false] (loc' := [none, none, none]) rfl ?_
      exact okj_X12_isThere_63 (0 : Int32) h  H
    · rw [if_neg c3] at H
      refine go_iconst (v := (1 : Int32)) dX12_isThere_58 rfl ?_
      refine go_goto (tgt := 63) dX12_isThere_59 (by decide) ?_
      refine go_mask [false, false, false] (loc' := [none, none, none]) rfl ?_
      exact okj_X12_isThere_63 (1 : Int32) h  H
  · replace H := (gm_ite H).2 c2
    by_cases c4 : v1 = (1 : Int32)
    · replace H := (gm_ite H).1 c4
      refine go_eqI c4 ?_
      refine go_tableIn (tgt := 64) dX12_isThere_20 (by decide) (by decide) rfl (by decide) ?_
      refine go_aloadn dX12_isThere_64 rfl ?_
      refine gm_getR fd_X12_38 dX12_isThere_65 H (fun x8 H => ?_)
      refine go_iconst (v := (1 : Int32)) dX12_isThere_68 rfl ?_
      refine gm_iald dX12_isThere_69 H (fun x9 H => ?_)
      refine go_aloadn dX12_isThere_70 rfl ?_
      refine gm_getR fd_X12_38 dX12_isThere_71 H (fun x10 H => ?_)
      refine go_iconst (v := (2 : Int32)) dX12_isThere_74 rfl ?_
      refine gm_iald dX12_isThere_75 H (fun x11 H => ?_)
      refine go_iadd dX12_isThere_76 ?_
      refine go_iloadn dX12_isThere_77 rfl ?_
      refine go_icmp_gt (tgt := 85) dX12_isThere_78 (by decide) (fun c5 => ?_) (fun c5 => ?_)
      · rw [if_pos c5] at H
        refine go_iconst (v := (0 : Int32)) dX12_isThere_85 rfl ?_
        refine go_mask [false, false, false] (loc' := [none, none, none]) rfl ?_
        exact okj_X12_isThere_86 (0 : Int32) h  H
      · rw [if_neg c5] at H
        refine go_iconst (v := (1 : Int32)) dX12_isThere_81 rfl ?_
        refine go_goto (tgt := 86) dX12_isThere_82 (by decide) ?_
        refine go_mask [false, false, false] (loc' := [none, none, none]) rfl ?_
        exact okj_X12_isThere_86 (1 : Int32) h  H
    · replace H := (gm_ite H).2 c4
      by_cases c6 : v1 = (2 : Int32)
      · replace H := (gm_ite H).1 c6
        refine go_eqI c6 ?_
        refine go_tableIn (tgt := 87) dX12_isThere_20 (by decide) (by decide) rfl (by decide) ?_
        refine go_aloadn dX12_isThere_87 rfl ?_
        refine gm_getR fd_X12_38 dX12_isThere_88 H (fun x12 H => ?_)
        refine go_iconst (v := (1 : Int32)) dX12_isThere_91 rfl ?_
        refine gm_iald dX12_isThere_92 H (fun x13 H => ?_)
        refine go_iloadn dX12_isThere_93 rfl ?_
        refine go_icmp_ge (tgt := 111) dX12_isThere_94 (by decide) (fun c7 => ?_) (fun c7 => ?_)
        · replace H := (gm_ite H).1 c7
          refine go_iconst (v := (0 : Int32)) dX12_isThere_111 rfl ?_
          refine go_mask [false, false, false] (loc' := [none, none, none]) rfl ?_
          exact okj_X12_isThere_112 (0 : Int32) h  H
        · replace H := (gm_ite H).2 c7
          refine go_aloadn dX12_isThere_97 rfl ?_
          refine gm_getR fd_X12_38 dX12_isThere_98 H (fun x14 H => ?_)
          refine go_iconst (v := (2 : Int32)) dX12_isThere_101 rfl ?_
          refine gm_iald dX12_isThere_102 H (fun x15 H => ?_)
          refine go_iloadn dX12_isThere_103 rfl ?_
          refine go_icmp_ge (tgt := 111) dX12_isThere_104 (by decide) (fun c8 => ?_) (fun c8 => ?_)
          · rw [if_pos c8] at H
            refine go_iconst (v := (0 : Int32)) dX12_isThere_111 rfl ?_
            refine go_mask [false, false, false] (loc' := [none, none, none]) rfl ?_
            exact okj_X12_isThere_112 (0 : Int32) h  H
          · rw [if_neg c8] at H
            refine go_iconst (v := (1 : Int32)) dX12_isThere_107 rfl ?_
            refine go_goto (tgt := 112) dX12_isThere_108 (by decide) ?_
            refine go_mask [false, false, false] (loc' := [none, none, none]) rfl ?_
            exact okj_X12_isThere_112 (1 : Int32) h  H
      · replace H := (gm_ite H).2 c6
        refine go_tableOut (tgt := 113) dX12_isThere_20 (sw_out (fun i h1 h2 e => ?_)) (by decide) ?_
        · have h3 : i = 0 ∨ i = 1 ∨ i = 2 := by omega
          rcases h3 with rfl | rfl | rfl
          · exact sw_ne c2 (by decide) e
          · exact sw_ne c4 (by decide) e
          · exact sw_ne c6 (by decide) e
        · skip
          refine go_aloadn dX12_isThere_113 rfl ?_
          refine gm_getR fd_X12_38 dX12_isThere_114 H (fun x16 H => ?_)
          refine go_iconst (v := (1 : Int32)) dX12_isThere_117 rfl ?_
          refine gm_iald dX12_isThere_118 H (fun x17 H => ?_)
          refine go_aloadn dX12_isThere_119 rfl ?_
          refine gm_getR fd_X12_35 dX12_isThere_120 H (fun x18 H => ?_)
          refine go_iconst (v := (1 : Int32)) dX12_isThere_123 rfl ?_
          refine go_aloadn dX12_isThere_124 rfl ?_
          refine gm_getR fd_X12_38 dX12_isThere_125 H (fun x19 H => ?_)
          refine go_iconst (v := (0 : Int32)) dX12_isThere_128 rfl ?_
          refine gm_iald dX12_isThere_129 H (fun x20 H => ?_)
          refine go_iadd dX12_isThere_130 ?_
          refine gm_iald dX12_isThere_131 H (fun x21 H => ?_)
          refine go_icmp_ge (tgt := 139) dX12_isThere_132 (by decide) (fun c9 => ?_) (fun c9 => ?_)
          · rw [if_pos c9] at H
            refine go_iconst (v := (0 : Int32)) dX12_isThere_139 rfl ?_
            refine go_mask [false, false, false] (loc' := [none, none, none]) rfl ?_
            exact okj_X12_isThere_140 (0 : Int32) h  H
          · rw [if_neg c9] at H
            refine go_iconst (v := (1 : Int32)) dX12_isThere_135 rfl ?_
            refine go_goto (tgt := 140) dX12_isThere_136 (by decide) ?_
            refine go_mask [false, false, false] (loc' := [none, none, none]) rfl ?_
            exact okj_X12_isThere_140 (1 : Int32) h  H
/-! X12_moves -/
def j_X12_moves_94 (v0 : Nat) (v1 : Int32) (v2 : Int32) (v3 : Int32) (v4 : Int32) (v5 : Int32)  (h : Hp) (k : Int32 → Int32 → Hp → Option Hp) : Option Hp :=
  k v4 (v5 + (1 : Int32)) h
set_option maxRecDepth 20000 in
theorem okj_X12_moves_94 {r : Hp} (v0 : Nat) (v1 : Int32) (v2 : Int32) (v3 : Int32) (v4 : Int32) (v5 : Int32)  (h : Hp) (k : Int32 → Int32 → Hp → Option Hp) (Hk : ∀ (v4q : Int32) (v5q : Int32) (hq : Hp), k v4q v5q hq = some r → Go M_X12_moves (none, r) 6 [some (aA v0), some (aI v1), some (aI v2), some (aI v3), some (aI v4q), some (aI v5q)] [] hq) (H : j_X12_moves_94 v0 v1 v2 v3 v4 v5 h k = some r) : Go M_X12_moves (none, r) 94 [some (aA v0), some (aI v1), some (aI v2), some (aI v3), some (aI v4), some (aI v5)] [] h := by
  unfold j_X12_moves_94 at H
  refine go_iinc (v := (v5 + (1 : Int32))) (loc2 := [some (aA v0), some (aI v1), some (aI v2), some (aI v3), some (aI v4), some (aI (v5 + (1 : Int32)))]) dX12_moves_94 rfl rfl (by decide) rfl ?_
  refine go_goto (tgt := 6) dX12_moves_97 (by decide) ?_
  exact Hk v4 (v5 + (1 : Int32)) h H
def j_X12_moves_30 (v0 : Nat) (v1 : Int32) (v2 : Int32) (v3 : Int32) (v5 : Int32) (s0 : Int32) (s1 : Int32) (h : Hp) (k : Int32 → Int32 → Hp → Option Hp) : Option Hp :=
  (gfR h v0 12 19).bind fun x1 => (alI h x1 (2 : Int32)).bind fun x2 => if ¬ v5 = x2 then ((gfR h v0 12 18).bind fun x3 => (alI h x3 (((86 : Int32) + ((20 : Int32) * v2)) + (s0 + s1))).bind fun x4 => (rc h v0 12 (m_X12_addWord v0 v1 x4 h)).bind fun x5 => j_X12_moves_94 v0 v1 v2 v3 ((s0 + s1) + (1 : Int32)) v5 x5 k) else (gfR h v0 12 18).bind fun x6 => (gfR h v0 12 19).bind fun x7 => (alI h x7 (1 : Int32)).bind fun x8 => (alI h x6 (((86 : Int32) + ((20 : Int32) * v2)) + x8)).bind fun x9 => (rc h v0 12 (m_X12_addWord v0 v1 x9 h)).bind fun x10 => j_X12_moves_94 v0 v1 v2 v3 (s0 + s1) v5 x10 k
set_option maxRecDepth 20000 in
theorem okj_X12_moves_30 {r : Hp} (v0 : Nat) (v1 : Int32) (v2 : Int32) (v3 : Int32) (v5 : Int32) (s0 : Int32) (s1 : Int32) (h : Hp) (k : Int32 → Int32 → Hp → Option Hp) (Hk : ∀ (v4q : Int32) (v5q : Int32) (hq : Hp), k v4q v5q hq = some r → Go M_X12_moves (none, r) 6 [some (aA v0), some (aI v1), some (aI v2), some (aI v3), some (aI v4q), some (aI v5q)] [] hq) (H : j_X12_moves_30 v0 v1 v2 v3 v5 s0 s1 h k = some r) : Go M_X12_moves (none, r) 30 [some (aA v0), some (aI v1), some (aI v2), some (aI v3), none, some (aI v5)] [aI s1, aI s0] h := by
  unfold j_X12_moves_30 at H
  refine go_iadd dX12_moves_30 ?_
  refine go_istore (loc2 := [some (aA v0), some (aI v1), some (aI v2), some (aI v3), some (aI (s0 + s1)), some (aI v5)]) dX12_moves_31 (by decide) rfl ?_
  refine go_iload dX12_moves_33 rfl ?_
  refine go_aloadn dX12_moves_35 rfl ?_
  refine gm_getR fd_X12_38 dX12_moves_36 H (fun x1 H => ?_)
  refine go_iconst (v := (2 : Int32)) dX12_moves_39 rfl ?_
  refine gm_iald dX12_moves_40 H (fun x2 H => ?_)
  refine go_icmp_ne (tgt := 71) dX12_moves_41 (by decide) (fun c1 => ?_) (fun c1 => ?_)
  · replace H := (gm_ite H).1 c1
    refine go_aloadn dX12_moves_71 rfl ?_
    refine go_iloadn dX12_moves_72 rfl ?_
    refine go_aloadn dX12_moves_73 rfl ?_
    refine gm_getR fd_X12_35 dX12_moves_74 H (fun x3 H => ?_)
    refine go_bipush (v := (86 : Int32)) dX12_moves_77 rfl ?_
    refine go_bipush (v := (20 : Int32)) dX12_moves_79 rfl ?_
    refine go_iloadn dX12_moves_81 rfl ?_
    refine go_imul dX12_moves_82 ?_
    refine go_iadd dX12_moves_83 ?_
    refine go_iload dX12_moves_84 rfl ?_
    refine go_iadd dX12_moves_86 ?_
    refine gm_iald dX12_moves_87 H (fun x4 H => ?_)
    obtain ⟨c2, x5, ex5, H⟩ := gm_rc H
    refine go_callV (vs := [aI v1, aI x4]) (stk := []) (o1 := (none, x5)) mk_X12_addWord sv_X12_moves_162 cl_X12 rfl dX12_moves_88 c2 rfl rfl (Nat.le_of_ble_eq_true rfl) (Nat.le_of_ble_eq_true rfl) (ok_X12_addWord ex5) (show Go M_X12_moves (none, r) 91 [some (aA v0), some (aI v1), some (aI v2), some (aI v3), some (aI (s0 + s1)), some (aI v5)] [] x5 from ?_)
    refine go_iinc (v := ((s0 + s1) + (1 : Int32))) (loc2 := [some (aA v0), some (aI v1), some (aI v2), some (aI v3), some (aI ((s0 + s1) + (1 : Int32))), some (aI v5)]) dX12_moves_91 rfl rfl (by decide) rfl ?_
    exact okj_X12_moves_94 v0 v1 v2 v3 ((s0 + s1) + (1 : Int32)) v5 x5 k Hk H
  · replace H := (gm_ite H).2 c1
    refine go_aloadn dX12_moves_44 rfl ?_
    refine go_iloadn dX12_moves_45 rfl ?_
    refine go_aloadn dX12_moves_46 rfl ?_
    refine gm_getR fd_X12_35 dX12_moves_47 H (fun x6 H => ?_)
    refine go_bipush (v := (86 : Int32)) dX12_moves_50 rfl ?_
    refine go_bipush (v := (20 : Int32)) dX12_moves_52 rfl ?_
    refine go_iloadn dX12_moves_54 rfl ?_
    refine go_imul dX12_moves_55 ?_
    refine go_iadd dX12_moves_56 ?_
    refine go_aloadn dX12_moves_57 rfl ?_
    refine gm_getR fd_X12_38 dX12_moves_58 H (fun x7 H => ?_)
    refine go_iconst (v := (1 : Int32)) dX12_moves_61 rfl ?_
    refine gm_iald dX12_moves_62 H (fun x8 H => ?_)
    refine go_iadd dX12_moves_63 ?_
    refine gm_iald dX12_moves_64 H (fun x9 H => ?_)
    obtain ⟨c3, x10, ex10, H⟩ := gm_rc H
    refine go_callV (vs := [aI v1, aI x9]) (stk := []) (o1 := (none, x10)) mk_X12_addWord sv_X12_moves_162 cl_X12 rfl dX12_moves_65 c3 rfl rfl (Nat.le_of_ble_eq_true rfl) (Nat.le_of_ble_eq_true rfl) (ok_X12_addWord ex10) (show Go M_X12_moves (none, r) 68 [some (aA v0), some (aI v1), some (aI v2), some (aI v3), some (aI (s0 + s1)), some (aI v5)] [] x10 from ?_)
    refine go_goto (tgt := 94) dX12_moves_68 (by decide) ?_
    exact okj_X12_moves_94 v0 v1 v2 v3 (s0 + s1) v5 x10 k Hk H
def b_X12_moves_6 (v0 : Nat) (v1 : Int32) (v2 : Int32) (v3 : Int32) (k : Int32 → Int32 → Hp → Option Hp) (v4 : Int32) (v5 : Int32) (h : Hp) : Option Hp :=
  if v3 ≤ v5 then (some h) else (gfR h v0 12 19).bind fun x1 => (alI h x1 (1 : Int32)).bind fun x2 => j_X12_moves_30 v0 v1 v2 v3 v5 v4 (if ¬ v4 = x2 then (0 : Int32) else (1 : Int32)) h k
set_option maxRecDepth 20000 in
theorem okb_X12_moves_6 {r : Hp} (v0 : Nat) (v1 : Int32) (v2 : Int32) (v3 : Int32) (k : Int32 → Int32 → Hp → Option Hp) (v4 : Int32) (v5 : Int32) (h : Hp) (Hk : ∀ (v4q : Int32) (v5q : Int32) (hq : Hp), k v4q v5q hq = some r → Go M_X12_moves (none, r) 6 [some (aA v0), some (aI v1), some (aI v2), some (aI v3), some (aI v4q), some (aI v5q)] [] hq) (H : b_X12_moves_6 v0 v1 v2 v3 k v4 v5 h = some r) : Go M_X12_moves (none, r) 6 [some (aA v0), some (aI v1), some (aI v2), some (aI v3), some (aI v4), some (aI v5)] [] h := by
  unfold b_X12_moves_6 at H
  refine go_iload dX12_moves_6 rfl ?_
  refine go_iloadn dX12_moves_8 rfl ?_
  refine go_icmp_ge (tgt := 100) dX12_moves_9 (by decide) (fun c1 => ?_) (fun c1 => ?_)
  · replace H := (gm_ite H).1 c1
    obtain rfl := Option.some.inj H
    exact go_return dX12_moves_100 rfl
  · replace H := (gm_ite H).2 c1
    refine go_iload dX12_moves_12 rfl ?_
    refine go_iload dX12_moves_14 rfl ?_
    refine go_aloadn dX12_moves_16 rfl ?_
    refine gm_getR fd_X12_38 dX12_moves_17 H (fun x1 H => ?_)
    refine go_iconst (v := (1 : Int32)) dX12_moves_20 rfl ?_
    refine gm_iald dX12_moves_21 H (fun x2 H => ?_)
    refine go_icmp_ne (tgt := 29) dX12_moves_22 (by decide) (fun c2 => ?_) (fun c2 => ?_)
    · rw [if_pos c2] at H
      refine go_iconst (v := (0 : Int32)) dX12_moves_29 rfl ?_
      refine go_mask [true, true, true, true, false, true] (loc' := [some (aA v0), some (aI v1), some (aI v2), some (aI v3), none, some (aI v5)]) rfl ?_
      exact okj_X12_moves_30 v0 v1 v2 v3 v5 v4 (0 : Int32) h k Hk H
    · rw [if_neg c2] at H
      refine go_iconst (v := (1 : Int32)) dX12_moves_25 rfl ?_
      refine go_goto (tgt := 30) dX12_moves_26 (by decide) ?_
      refine go_mask [true, true, true, true, false, true] (loc' := [some (aA v0), some (aI v1), some (aI v2), some (aI v3), none, some (aI v5)]) rfl ?_
      exact okj_X12_moves_30 v0 v1 v2 v3 v5 v4 (1 : Int32) h k Hk H
def l_X12_moves_6 (v0 : Nat) (v1 : Int32) (v2 : Int32) (v3 : Int32) (v4 : Int32) (v5 : Int32) (h : Hp) : Option Hp := loopK FUEL (fun (k : Int32 × Int32 × Hp → Option Hp) (s : Int32 × Int32 × Hp) => b_X12_moves_6 v0 v1 v2 v3 (fun v4q v5q hq => k (v4q, v5q, hq)) s.1 s.2.1 s.2.2) (v4, v5, h)
theorem okl_X12_moves_6 {r : Hp} (v0 : Nat) (v1 : Int32) (v2 : Int32) (v3 : Int32) (v4 : Int32) (v5 : Int32) (h : Hp) (H : l_X12_moves_6 v0 v1 v2 v3 v4 v5 h = some r) : Go M_X12_moves (none, r) 6 [some (aA v0), some (aI v1), some (aI v2), some (aI v3), some (aI v4), some (aI v5)] [] h := by
  unfold l_X12_moves_6 at H
  exact go_loop (σ := Int32 × Int32 × Hp) (body := (fun (k : Int32 × Int32 × Hp → Option Hp) (s : Int32 × Int32 × Hp) => b_X12_moves_6 v0 v1 v2 v3 (fun v4q v5q hq => k (v4q, v5q, hq)) s.1 s.2.1 s.2.2)) (fun s => [some (aA v0), some (aI v1), some (aI v2), some (aI v3), some (aI s.1), some (aI s.2.1)]) (fun s => s.2.2) (fun k s Hk H => okb_X12_moves_6 v0 v1 v2 v3 (fun v4q v5q hq => k (v4q, v5q, hq)) s.1 s.2.1 s.2.2  (fun v4q v5q hq H => Hk (v4q, v5q, hq) H) H) FUEL (v4, v5, h) H
def m_X12_moves (v0 : Nat) (v1 : Int32) (v2 : Int32) (v3 : Int32) (h : Hp) : Option Hp :=
  l_X12_moves_6 v0 v1 v2 v3 (0 : Int32) (0 : Int32) h
set_option maxRecDepth 20000 in
theorem ok_X12_moves {r : Hp} {v0 : Nat} {v1 : Int32} {v2 : Int32} {v3 : Int32} {h : Hp} (H : m_X12_moves v0 v1 v2 v3 h = some r) : Ev M_X12_moves [aA v0, aI v1, aI v2, aI v3] h (none, r) := by
  show Go M_X12_moves (none, r) 0 [some (aA v0), some (aI v1), some (aI v2), some (aI v3), none, none] [] h
  unfold m_X12_moves at H
  refine go_iconst (v := (0 : Int32)) dX12_moves_0 rfl ?_
  refine go_istore (loc2 := [some (aA v0), some (aI v1), some (aI v2), some (aI v3), some (aI (0 : Int32)), none]) dX12_moves_1 (by decide) rfl ?_
  refine go_iconst (v := (0 : Int32)) dX12_moves_3 rfl ?_
  refine go_istore (loc2 := [some (aA v0), some (aI v1), some (aI v2), some (aI v3), some (aI (0 : Int32)), some (aI (0 : Int32))]) dX12_moves_4 (by decide) rfl ?_
  exact okl_X12_moves_6 v0 v1 v2 v3 (0 : Int32) (0 : Int32) h H
/-! X12_makeVersion -/
def b_X12_makeVersion_74 (v0 : Nat) (v1 : Int32) (v2 : Int32) (v3 : Int32) (v4 : Int32) (v5 : Int32) (K121 : Hp → Option Hp) (k : Int32 → Hp → Option Hp) (v6 : Int32) (h : Hp) : Option Hp :=
  (gfI h v0 12 21).bind fun x1 => if x1 ≤ v6 then K121 h else if ¬ v1 = 0 then K121 h else (gfR h v0 12 19).bind fun x2 => (alI h x2 (1 : Int32)).bind fun x3 => if ¬ v5 = x3 then K121 h else (gfR h v0 12 20).bind fun x4 => (alI h x4 v6).bind fun x5 => (rc h v0 12 (m_X12_newToken v0 v2 x5 h)).bind fun x6 => (rc x6.2 v0 12 (m_X12_addWord v0 v2 x6.1 x6.2)).bind fun x7 => k (v6 + (1 : Int32)) x7
set_option maxRecDepth 20000 in
theorem okb_X12_makeVersion_74 {r : Hp} (v0 : Nat) (v1 : Int32) (v2 : Int32) (v3 : Int32) (v4 : Int32) (v5 : Int32) (K121 : Hp → Option Hp) (k : Int32 → Hp → Option Hp) (v6 : Int32) (h : Hp) (HK121 : ∀   (hq : Hp), K121 hq = some r → Go M_X12_makeVersion (none, r) 121 [some (aA v0), some (aI v1), some (aI v2), some (aI v3), some (aI v4), some (aI v5), none] [] hq) (Hk : ∀ (v6q : Int32) (hq : Hp), k v6q hq = some r → Go M_X12_makeVersion (none, r) 74 [some (aA v0), some (aI v1), some (aI v2), some (aI v3), some (aI v4), some (aI v5), some (aI v6q)] [] hq) (H : b_X12_makeVersion_74 v0 v1 v2 v3 v4 v5 K121 k v6 h = some r) : Go M_X12_makeVersion (none, r) 74 [some (aA v0), some (aI v1), some (aI v2), some (aI v3), some (aI v4), some (aI v5), some (aI v6)] [] h := by
  unfold b_X12_makeVersion_74 at H
  refine go_iload dX12_makeVersion_74 rfl ?_
  refine go_aloadn dX12_makeVersion_76 rfl ?_
  refine gm_getI fd_X12_129 dX12_makeVersion_77 H (fun x1 H => ?_)
  refine go_icmp_ge (tgt := 121) dX12_makeVersion_80 (by decide) (fun c1 => ?_) (fun c1 => ?_)
  · replace H := (gm_ite H).1 c1
    refine go_mask [true, true, true, true, true, true, false] (loc' := [some (aA v0), some (aI v1), some (aI v2), some (aI v3), some (aI v4), some (aI v5), none]) rfl ?_
    exact HK121 h H
  · replace H := (gm_ite H).2 c1
    refine go_iloadn dX12_makeVersion_83 rfl ?_
    refine go_if_ne (tgt := 121) dX12_makeVersion_84 (by decide) (fun c2 => ?_) (fun c2 => ?_)
    · replace H := (gm_ite H).1 c2
      refine go_mask [true, true, true, true, true, true, false] (loc' := [some (aA v0), some (aI v1), some (aI v2), some (aI v3), some (aI v4), some (aI v5), none]) rfl ?_
      exact HK121 h H
    · replace H := (gm_ite H).2 c2
      refine go_iload dX12_makeVersion_87 rfl ?_
      refine go_aloadn dX12_makeVersion_89 rfl ?_
      refine gm_getR fd_X12_38 dX12_makeVersion_90 H (fun x2 H => ?_)
      refine go_iconst (v := (1 : Int32)) dX12_makeVersion_93 rfl ?_
      refine gm_iald dX12_makeVersion_94 H (fun x3 H => ?_)
      refine go_icmp_ne (tgt := 121) dX12_makeVersion_95 (by decide) (fun c3 => ?_) (fun c3 => ?_)
      · replace H := (gm_ite H).1 c3
        refine go_mask [true, true, true, true, true, true, false] (loc' := [some (aA v0), some (aI v1), some (aI v2), some (aI v3), some (aI v4), some (aI v5), none]) rfl ?_
        exact HK121 h H
      · replace H := (gm_ite H).2 c3
        refine go_aloadn dX12_makeVersion_98 rfl ?_
        refine go_iloadn dX12_makeVersion_99 rfl ?_
        refine go_aloadn dX12_makeVersion_100 rfl ?_
        refine go_iloadn dX12_makeVersion_101 rfl ?_
        refine go_aloadn dX12_makeVersion_102 rfl ?_
        refine gm_getR fd_X12_41 dX12_makeVersion_103 H (fun x4 H => ?_)
        refine go_iload dX12_makeVersion_106 rfl ?_
        refine gm_iald dX12_makeVersion_108 H (fun x5 H => ?_)
        obtain ⟨c4, x6, ex6, H⟩ := gm_rc H
        refine go_callV (vs := [aI v2, aI x5]) (stk := [aI v2, aA v0]) (o1 := (some (aI x6.1), x6.2)) mk_X12_newToken sv_X12_makeVersion_159 cl_X12 rfl dX12_makeVersion_109 c4 rfl rfl (Nat.le_of_ble_eq_true rfl) (Nat.le_of_ble_eq_true rfl) (ok_X12_newToken ex6) (show Go M_X12_makeVersion (none, r) 112 [some (aA v0), some (aI v1), some (aI v2), some (aI v3), some (aI v4), some (aI v5), some (aI v6)] [aI x6.1, aI v2, aA v0] x6.2 from ?_)
        obtain ⟨c5, x7, ex7, H⟩ := gm_rc H
        refine go_callV (vs := [aI v2, aI x6.1]) (stk := []) (o1 := (none, x7)) mk_X12_addWord sv_X12_makeVersion_162 cl_X12 rfl dX12_makeVersion_112 c5 rfl rfl (Nat.le_of_ble_eq_true rfl) (Nat.le_of_ble_eq_true rfl) (ok_X12_addWord ex7) (show Go M_X12_makeVersion (none, r) 115 [some (aA v0), some (aI v1), some (aI v2), some (aI v3), some (aI v4), some (aI v5), some (aI v6)] [] x7 from ?_)
        refine go_iinc (v := (v6 + (1 : Int32))) (loc2 := [some (aA v0), some (aI v1), some (aI v2), some (aI v3), some (aI v4), some (aI v5), some (aI (v6 + (1 : Int32)))]) dX12_makeVersion_115 rfl rfl (by decide) rfl ?_
        refine go_goto (tgt := 74) dX12_makeVersion_118 (by decide) ?_
        exact Hk (v6 + (1 : Int32)) x7 H
def l_X12_makeVersion_74 (v0 : Nat) (v1 : Int32) (v2 : Int32) (v3 : Int32) (v4 : Int32) (v5 : Int32) (K121 : Hp → Option Hp) (v6 : Int32) (h : Hp) : Option Hp := loopK FUEL (fun (k : Int32 × Hp → Option Hp) (s : Int32 × Hp) => b_X12_makeVersion_74 v0 v1 v2 v3 v4 v5 K121 (fun v6q hq => k (v6q, hq)) s.1 s.2) (v6, h)
theorem okl_X12_makeVersion_74 {r : Hp} (v0 : Nat) (v1 : Int32) (v2 : Int32) (v3 : Int32) (v4 : Int32) (v5 : Int32) (K121 : Hp → Option Hp) (v6 : Int32) (h : Hp) (HK121 : ∀   (hq : Hp), K121 hq = some r → Go M_X12_makeVersion (none, r) 121 [some (aA v0), some (aI v1), some (aI v2), some (aI v3), some (aI v4), some (aI v5), none] [] hq) (H : l_X12_makeVersion_74 v0 v1 v2 v3 v4 v5 K121 v6 h = some r) : Go M_X12_makeVersion (none, r) 74 [some (aA v0), some (aI v1), some (aI v2), some (aI v3), some (aI v4), some (aI v5), some (aI v6)] [] h := by
  unfold l_X12_makeVersion_74 at H
  exact go_loop (σ := Int32 × Hp) (body := (fun (k : Int32 × Hp → Option Hp) (s : Int32 × Hp) => b_X12_makeVersion_74 v0 v1 v2 v3 v4 v5 K121 (fun v6q hq => k (v6q, hq)) s.1 s.2)) (fun s => [some (aA v0), some (aI v1), some (aI v2), some (aI v3), some (aI v4), some (aI v5), some (aI s.1)]) (fun s => s.2) (fun k s Hk H => okb_X12_makeVersion_74 v0 v1 v2 v3 v4 v5 K121 (fun v6q hq => k (v6q, hq)) s.1 s.2 HK121 (fun v6q hq H => Hk (v6q, hq) H) H) FUEL (v6, h) H
def j_X12_makeVersion_194 (v0 : Nat) (v1 : Int32) (v2 : Int32) (v3 : Int32) (v4 : Int32) (v5 : Int32)  (h : Hp) (k : Int32 → Hp → Option Hp) : Option Hp :=
  k (v5 + (1 : Int32)) h
set_option maxRecDepth 20000 in
theorem okj_X12_makeVersion_194 {r : Hp} (v0 : Nat) (v1 : Int32) (v2 : Int32) (v3 : Int32) (v4 : Int32) (v5 : Int32)  (h : Hp) (k : Int32 → Hp → Option Hp) (Hk : ∀ (v5q : Int32) (hq : Hp), k v5q hq = some r → Go M_X12_makeVersion (none, r) 64 [some (aA v0), some (aI v1), some (aI v2), some (aI v3), some (aI v4), some (aI v5q), none] [] hq) (H : j_X12_makeVersion_194 v0 v1 v2 v3 v4 v5 h k = some r) : Go M_X12_makeVersion (none, r) 194 [some (aA v0), some (aI v1), some (aI v2), some (aI v3), some (aI v4), some (aI v5), none] [] h := by
  unfold j_X12_makeVersion_194 at H
  refine go_iinc (v := (v5 + (1 : Int32))) (loc2 := [some (aA v0), some (aI v1), some (aI v2), some (aI v3), some (aI v4), some (aI (v5 + (1 : Int32))), none]) dX12_makeVersion_194 rfl rfl (by decide) rfl ?_
  refine go_goto (tgt := 64) dX12_makeVersion_197 (by decide) ?_
  exact Hk (v5 + (1 : Int32)) h H
def j_X12_makeVersion_160 (v0 : Nat) (v1 : Int32) (v2 : Int32) (v3 : Int32) (v4 : Int32) (v5 : Int32) (s0 : Int32) (h : Hp) (k : Int32 → Hp → Option Hp) : Option Hp :=
  if v4 ≤ v5 then j_X12_makeVersion_194 v0 v1 v2 v3 v4 v5 h k else if ¬ s0 = 0 then j_X12_makeVersion_194 v0 v1 v2 v3 v4 v5 h k else (gfR h v0 12 18).bind fun x1 => (alI h x1 (((86 : Int32) + ((20 : Int32) * v3)) + v5)).bind fun x2 => (rc h v0 12 (m_X12_addWord v0 v2 x2 h)).bind fun x3 => j_X12_makeVersion_194 v0 v1 v2 v3 v4 v5 x3 k
set_option maxRecDepth 20000 in
theorem okj_X12_makeVersion_160 {r : Hp} (v0 : Nat) (v1 : Int32) (v2 : Int32) (v3 : Int32) (v4 : Int32) (v5 : Int32) (s0 : Int32) (h : Hp) (k : Int32 → Hp → Option Hp) (Hk : ∀ (v5q : Int32) (hq : Hp), k v5q hq = some r → Go M_X12_makeVersion (none, r) 64 [some (aA v0), some (aI v1), some (aI v2), some (aI v3), some (aI v4), some (aI v5q), none] [] hq) (H : j_X12_makeVersion_160 v0 v1 v2 v3 v4 v5 s0 h k = some r) : Go M_X12_makeVersion (none, r) 160 [some (aA v0), some (aI v1), some (aI v2), some (aI v3), some (aI v4), some (aI v5), none] [aI s0] h := by
  unfold j_X12_makeVersion_160 at H
  refine go_istore (loc2 := [some (aA v0), some (aI v1), some (aI v2), some (aI v3), some (aI v4), some (aI v5), some (aI s0)]) dX12_makeVersion_160 (by decide) rfl ?_
  refine go_iload dX12_makeVersion_162 rfl ?_
  refine go_iload dX12_makeVersion_164 rfl ?_
  refine go_icmp_ge (tgt := 194) dX12_makeVersion_166 (by decide) (fun c1 => ?_) (fun c1 => ?_)
  · replace H := (gm_ite H).1 c1
    refine go_mask [true, true, true, true, true, true, false] (loc' := [some (aA v0), some (aI v1), some (aI v2), some (aI v3), some (aI v4), some (aI v5), none]) rfl ?_
    exact okj_X12_makeVersion_194 v0 v1 v2 v3 v4 v5 h k Hk H
  · replace H := (gm_ite H).2 c1
    refine go_iload dX12_makeVersion_169 rfl ?_
    refine go_if_ne (tgt := 194) dX12_makeVersion_171 (by decide) (fun c2 => ?_) (fun c2 => ?_)
    · replace H := (gm_ite H).1 c2
      refine go_mask [true, true, true, true, true, true, false] (loc' := [some (aA v0), some (aI v1), some (aI v2), some (aI v3), some (aI v4), some (aI v5), none]) rfl ?_
      exact okj_X12_makeVersion_194 v0 v1 v2 v3 v4 v5 h k Hk H
    · replace H := (gm_ite H).2 c2
      refine go_aloadn dX12_makeVersion_174 rfl ?_
      refine go_iloadn dX12_makeVersion_175 rfl ?_
      refine go_aloadn dX12_makeVersion_176 rfl ?_
      refine gm_getR fd_X12_35 dX12_makeVersion_177 H (fun x1 H => ?_)
      refine go_bipush (v := (86 : Int32)) dX12_makeVersion_180 rfl ?_
      refine go_bipush (v := (20 : Int32)) dX12_makeVersion_182 rfl ?_
      refine go_iloadn dX12_makeVersion_184 rfl ?_
      refine go_imul dX12_makeVersion_185 ?_
      refine go_iadd dX12_makeVersion_186 ?_
      refine go_iload dX12_makeVersion_187 rfl ?_
      refine go_iadd dX12_makeVersion_189 ?_
      refine gm_iald dX12_makeVersion_190 H (fun x2 H => ?_)
      obtain ⟨c3, x3, ex3, H⟩ := gm_rc H
      refine go_callV (vs := [aI v2, aI x2]) (stk := []) (o1 := (none, x3)) mk_X12_addWord sv_X12_makeVersion_162 cl_X12 rfl dX12_makeVersion_191 c3 rfl rfl (Nat.le_of_ble_eq_true rfl) (Nat.le_of_ble_eq_true rfl) (ok_X12_addWord ex3) (show Go M_X12_makeVersion (none, r) 194 [some (aA v0), some (aI v1), some (aI v2), some (aI v3), some (aI v4), some (aI v5), some (aI s0)] [] x3 from ?_)
      refine go_mask [true, true, true, true, true, true, false] (loc' := [some (aA v0), some (aI v1), some (aI v2), some (aI v3), some (aI v4), some (aI v5), none]) rfl ?_
      exact okj_X12_makeVersion_194 v0 v1 v2 v3 v4 v5 x3 k Hk H
def j_X12_makeVersion_121 (v0 : Nat) (v1 : Int32) (v2 : Int32) (v3 : Int32) (v4 : Int32) (v5 : Int32)  (h : Hp) (k : Int32 → Hp → Option Hp) : Option Hp :=
  if ¬ v1 = (1 : Int32) then j_X12_makeVersion_160 v0 v1 v2 v3 v4 v5 (0 : Int32) h k else (gfR h v0 12 19).bind fun x1 => (alI h x1 (1 : Int32)).bind fun x2 => (gfR h v0 12 19).bind fun x3 => (alI h x3 (1 : Int32)).bind fun x4 => (gfR h v0 12 19).bind fun x5 => (alI h x5 (2 : Int32)).bind fun x6 => (m_X12_in v5 x2 ((x4 + x6) - (1 : Int32)) h).bind fun x7 => j_X12_makeVersion_160 v0 v1 v2 v3 v4 v5 (if x7 = 0 then (0 : Int32) else (1 : Int32)) h k
set_option maxRecDepth 20000 in
theorem okj_X12_makeVersion_121 {r : Hp} (v0 : Nat) (v1 : Int32) (v2 : Int32) (v3 : Int32) (v4 : Int32) (v5 : Int32)  (h : Hp) (k : Int32 → Hp → Option Hp) (Hk : ∀ (v5q : Int32) (hq : Hp), k v5q hq = some r → Go M_X12_makeVersion (none, r) 64 [some (aA v0), some (aI v1), some (aI v2), some (aI v3), some (aI v4), some (aI v5q), none] [] hq) (H : j_X12_makeVersion_121 v0 v1 v2 v3 v4 v5 h k = some r) : Go M_X12_makeVersion (none, r) 121 [some (aA v0), some (aI v1), some (aI v2), some (aI v3), some (aI v4), some (aI v5), none] [] h := by
  unfold j_X12_makeVersion_121 at H
  refine go_iloadn dX12_makeVersion_121 rfl ?_
  refine go_iconst (v := (1 : Int32)) dX12_makeVersion_122 rfl ?_
  refine go_icmp_ne (tgt := 159) dX12_makeVersion_123 (by decide) (fun c1 => ?_) (fun c1 => ?_)
  · replace H := (gm_ite H).1 c1
    refine go_iconst (v := (0 : Int32)) dX12_makeVersion_159 rfl ?_
    exact okj_X12_makeVersion_160 v0 v1 v2 v3 v4 v5 (0 : Int32) h k Hk H
  · replace H := (gm_ite H).2 c1
    refine go_iload dX12_makeVersion_126 rfl ?_
    refine go_aloadn dX12_makeVersion_128 rfl ?_
    refine gm_getR fd_X12_38 dX12_makeVersion_129 H (fun x1 H => ?_)
    refine go_iconst (v := (1 : Int32)) dX12_makeVersion_132 rfl ?_
    refine gm_iald dX12_makeVersion_133 H (fun x2 H => ?_)
    refine go_aloadn dX12_makeVersion_134 rfl ?_
    refine gm_getR fd_X12_38 dX12_makeVersion_135 H (fun x3 H => ?_)
    refine go_iconst (v := (1 : Int32)) dX12_makeVersion_138 rfl ?_
    refine gm_iald dX12_makeVersion_139 H (fun x4 H => ?_)
    refine go_aloadn dX12_makeVersion_140 rfl ?_
    refine gm_getR fd_X12_38 dX12_makeVersion_141 H (fun x5 H => ?_)
    refine go_iconst (v := (2 : Int32)) dX12_makeVersion_144 rfl ?_
    refine gm_iald dX12_makeVersion_145 H (fun x6 H => ?_)
    refine go_iadd dX12_makeVersion_146 ?_
    refine go_iconst (v := (1 : Int32)) dX12_makeVersion_147 rfl ?_
    refine go_isub dX12_makeVersion_148 ?_
    obtain ⟨x7, ex7, H⟩ := bind_some H
    refine go_callS (vs := [aI v5, aI x2, aI ((x4 + x6) - (1 : Int32))]) (stk := []) (o1 := (some (aI x7), h)) mk_X12_in ss_X12_makeVersion_72 dX12_makeVersion_149 rfl rfl (Nat.le_of_ble_eq_true rfl) (Nat.le_of_ble_eq_true rfl) (ok_X12_in ex7) (show Go M_X12_makeVersion (none, r) 152 [some (aA v0), some (aI v1), some (aI v2), some (aI v3), some (aI v4), some (aI v5), none] [aI x7] h from ?_)
    refine go_if_eq (tgt := 159) dX12_makeVersion_152 (by decide) (fun c3 => ?_) (fun c3 => ?_)
    · rw [if_pos c3] at H
      refine go_iconst (v := (0 : Int32)) dX12_makeVersion_159 rfl ?_
      exact okj_X12_makeVersion_160 v0 v1 v2 v3 v4 v5 (0 : Int32) h k Hk H
    · rw [if_neg c3] at H
      refine go_iconst (v := (1 : Int32)) dX12_makeVersion_155 rfl ?_
      refine go_goto (tgt := 160) dX12_makeVersion_156 (by decide) ?_
      exact okj_X12_makeVersion_160 v0 v1 v2 v3 v4 v5 (1 : Int32) h k Hk H
def b_X12_makeVersion_64 (v0 : Nat) (v1 : Int32) (v2 : Int32) (v3 : Int32) (v4 : Int32) (k : Int32 → Hp → Option Hp) (v5 : Int32) (h : Hp) : Option Hp :=
  if v4 < v5 then (some h) else l_X12_makeVersion_74 v0 v1 v2 v3 v4 v5 (fun hz1 => j_X12_makeVersion_121 v0 v1 v2 v3 v4 v5 hz1 k) (0 : Int32) h
set_option maxRecDepth 20000 in
theorem okb_X12_makeVersion_64 {r : Hp} (v0 : Nat) (v1 : Int32) (v2 : Int32) (v3 : Int32) (v4 : Int32) (k : Int32 → Hp → Option Hp) (v5 : Int32) (h : Hp) (Hk : ∀ (v5q : Int32) (hq : Hp), k v5q hq = some r → Go M_X12_makeVersion (none, r) 64 [some (aA v0), some (aI v1), some (aI v2), some (aI v3), some (aI v4), some (aI v5q), none] [] hq) (H : b_X12_makeVersion_64 v0 v1 v2 v3 v4 k v5 h = some r) : Go M_X12_makeVersion (none, r) 64 [some (aA v0), some (aI v1), some (aI v2), some (aI v3), some (aI v4), some (aI v5), none] [] h := by
  unfold b_X12_makeVersion_64 at H
  refine go_iload dX12_makeVersion_64 rfl ?_
  refine go_iload dX12_makeVersion_66 rfl ?_
  refine go_icmp_gt (tgt := 200) dX12_makeVersion_68 (by decide) (fun c1 => ?_) (fun c1 => ?_)
  · replace H := (gm_ite H).1 c1
    obtain rfl := Option.some.inj H
    exact go_return dX12_makeVersion_200 rfl
  · replace H := (gm_ite H).2 c1
    refine go_iconst (v := (0 : Int32)) dX12_makeVersion_71 rfl ?_
    refine go_istore (loc2 := [some (aA v0), some (aI v1), some (aI v2), some (aI v3), some (aI v4), some (aI v5), some (aI (0 : Int32))]) dX12_makeVersion_72 (by decide) rfl ?_
    refine okl_X12_makeVersion_74 v0 v1 v2 v3 v4 v5 (fun hz1 => j_X12_makeVersion_121 v0 v1 v2 v3 v4 v5 hz1 k) (0 : Int32) h ?_ H
    · intro hz1 H
      exact okj_X12_makeVersion_121 v0 v1 v2 v3 v4 v5 hz1 k Hk H
def l_X12_makeVersion_64 (v0 : Nat) (v1 : Int32) (v2 : Int32) (v3 : Int32) (v4 : Int32) (v5 : Int32) (h : Hp) : Option Hp := loopK FUEL (fun (k : Int32 × Hp → Option Hp) (s : Int32 × Hp) => b_X12_makeVersion_64 v0 v1 v2 v3 v4 (fun v5q hq => k (v5q, hq)) s.1 s.2) (v5, h)
theorem okl_X12_makeVersion_64 {r : Hp} (v0 : Nat) (v1 : Int32) (v2 : Int32) (v3 : Int32) (v4 : Int32) (v5 : Int32) (h : Hp) (H : l_X12_makeVersion_64 v0 v1 v2 v3 v4 v5 h = some r) : Go M_X12_makeVersion (none, r) 64 [some (aA v0), some (aI v1), some (aI v2), some (aI v3), some (aI v4), some (aI v5), none] [] h := by
  unfold l_X12_makeVersion_64 at H
  exact go_loop (σ := Int32 × Hp) (body := (fun (k : Int32 × Hp → Option Hp) (s : Int32 × Hp) => b_X12_makeVersion_64 v0 v1 v2 v3 v4 (fun v5q hq => k (v5q, hq)) s.1 s.2)) (fun s => [some (aA v0), some (aI v1), some (aI v2), some (aI v3), some (aI v4), some (aI s.1), none]) (fun s => s.2) (fun k s Hk H => okb_X12_makeVersion_64 v0 v1 v2 v3 v4 (fun v5q hq => k (v5q, hq)) s.1 s.2  (fun v5q hq H => Hk (v5q, hq) H) H) FUEL (v5, h) H
def j_X12_makeVersion_30 (v0 : Nat) (v1 : Int32) (v2 : Int32) (s0 : Int32) (h : Hp) : Option Hp :=
  (gfR h v0 12 18).bind fun x1 => (alI h x1 ((46 : Int32) + s0)).bind fun x2 => (rc h v0 12 (m_X12_beginVersion v0 v2 h)).bind fun x3 => if ¬ v1 = (2 : Int32) then (l_X12_makeVersion_64 v0 v1 v2 s0 x2 (0 : Int32) x3) else (rc x3 v0 12 (m_X12_moves v0 v2 s0 x2 x3)).bind fun x4 => some x4
set_option maxRecDepth 20000 in
theorem okj_X12_makeVersion_30 {r : Hp} (v0 : Nat) (v1 : Int32) (v2 : Int32) (s0 : Int32) (h : Hp) (H : j_X12_makeVersion_30 v0 v1 v2 s0 h = some r) : Go M_X12_makeVersion (none, r) 30 [some (aA v0), some (aI v1), some (aI v2), none, none, none, none] [aI s0] h := by
  unfold j_X12_makeVersion_30 at H
  refine go_istoren (loc2 := [some (aA v0), some (aI v1), some (aI v2), some (aI s0), none, none, none]) dX12_makeVersion_30 rfl (by decide) rfl ?_
  refine go_aloadn dX12_makeVersion_31 rfl ?_
  refine gm_getR fd_X12_35 dX12_makeVersion_32 H (fun x1 H => ?_)
  refine go_bipush (v := (46 : Int32)) dX12_makeVersion_35 rfl ?_
  refine go_iloadn dX12_makeVersion_37 rfl ?_
  refine go_iadd dX12_makeVersion_38 ?_
  refine gm_iald dX12_makeVersion_39 H (fun x2 H => ?_)
  refine go_istore (loc2 := [some (aA v0), some (aI v1), some (aI v2), some (aI s0), some (aI x2), none, none]) dX12_makeVersion_40 (by decide) rfl ?_
  refine go_aloadn dX12_makeVersion_42 rfl ?_
  refine go_iloadn dX12_makeVersion_43 rfl ?_
  obtain ⟨c1, x3, ex3, H⟩ := gm_rc H
  refine go_callV (vs := [aI v2]) (stk := []) (o1 := (none, x3)) mk_X12_beginVersion sv_X12_makeVersion_156 cl_X12 rfl dX12_makeVersion_44 c1 rfl rfl (Nat.le_of_ble_eq_true rfl) (Nat.le_of_ble_eq_true rfl) (ok_X12_beginVersion ex3) (show Go M_X12_makeVersion (none, r) 47 [some (aA v0), some (aI v1), some (aI v2), some (aI s0), some (aI x2), none, none] [] x3 from ?_)
  refine go_iloadn dX12_makeVersion_47 rfl ?_
  refine go_iconst (v := (2 : Int32)) dX12_makeVersion_48 rfl ?_
  refine go_icmp_ne (tgt := 61) dX12_makeVersion_49 (by decide) (fun c2 => ?_) (fun c2 => ?_)
  · replace H := (gm_ite H).1 c2
    refine go_iconst (v := (0 : Int32)) dX12_makeVersion_61 rfl ?_
    refine go_istore (loc2 := [some (aA v0), some (aI v1), some (aI v2), some (aI s0), some (aI x2), some (aI (0 : Int32)), none]) dX12_makeVersion_62 (by decide) rfl ?_
    exact okl_X12_makeVersion_64 v0 v1 v2 s0 x2 (0 : Int32) x3 H
  · replace H := (gm_ite H).2 c2
    refine go_aloadn dX12_makeVersion_52 rfl ?_
    refine go_iloadn dX12_makeVersion_53 rfl ?_
    refine go_iloadn dX12_makeVersion_54 rfl ?_
    refine go_iload dX12_makeVersion_55 rfl ?_
    obtain ⟨c3, x4, ex4, H⟩ := gm_rc H
    refine go_callV (vs := [aI v2, aI s0, aI x2]) (stk := []) (o1 := (none, x4)) mk_X12_moves sv_X12_makeVersion_173 cl_X12 rfl dX12_makeVersion_57 c3 rfl rfl (Nat.le_of_ble_eq_true rfl) (Nat.le_of_ble_eq_true rfl) (ok_X12_moves ex4) (show Go M_X12_makeVersion (none, r) 60 [some (aA v0), some (aI v1), some (aI v2), some (aI s0), some (aI x2), none, none] [] x4 from ?_)
    obtain rfl := Option.some.inj H
    exact go_return dX12_makeVersion_60 rfl
def m_X12_makeVersion (v0 : Nat) (v1 : Int32) (h : Hp) : Option Hp :=
  (gfR h v0 12 19).bind fun x1 => (alI h x1 (0 : Int32)).bind fun x2 => if ¬ v1 = (3 : Int32) then ((rc h v0 12 (m_X12_latest v0 x2 h)).bind fun x3 => j_X12_makeVersion_30 v0 v1 x2 x3 h) else (gfR h v0 12 19).bind fun x4 => (alI h x4 (1 : Int32)).bind fun x5 => (m_X12_at x2 x5 h).bind fun x6 => j_X12_makeVersion_30 v0 v1 x2 x6 h
set_option maxRecDepth 20000 in
theorem ok_X12_makeVersion {r : Hp} {v0 : Nat} {v1 : Int32} {h : Hp} (H : m_X12_makeVersion v0 v1 h = some r) : Ev M_X12_makeVersion [aA v0, aI v1] h (none, r) := by
  show Go M_X12_makeVersion (none, r) 0 [some (aA v0), some (aI v1), none, none, none, none, none] [] h
  unfold m_X12_makeVersion at H
  refine go_aloadn dX12_makeVersion_0 rfl ?_
  refine gm_getR fd_X12_38 dX12_makeVersion_1 H (fun x1 H => ?_)
  refine go_iconst (v := (0 : Int32)) dX12_makeVersion_4 rfl ?_
  refine gm_iald dX12_makeVersion_5 H (fun x2 H => ?_)
  refine go_istoren (loc2 := [some (aA v0), some (aI v1), some (aI x2), none, none, none, none]) dX12_makeVersion_6 rfl (by decide) rfl ?_
  refine go_iloadn dX12_makeVersion_7 rfl ?_
  refine go_iconst (v := (3 : Int32)) dX12_makeVersion_8 rfl ?_
  refine go_icmp_ne (tgt := 25) dX12_makeVersion_9 (by decide) (fun c1 => ?_) (fun c1 => ?_)
  · replace H := (gm_ite H).1 c1
    refine go_aloadn dX12_makeVersion_25 rfl ?_
    refine go_iloadn dX12_makeVersion_26 rfl ?_
    obtain ⟨c2, x3, ex3, H⟩ := gm_rc H
    refine go_callV (vs := [aI x2]) (stk := []) (o1 := (some (aI x3), h)) mk_X12_latest sv_X12_makeVersion_139 cl_X12 rfl dX12_makeVersion_27 c2 rfl rfl (Nat.le_of_ble_eq_true rfl) (Nat.le_of_ble_eq_true rfl) (ok_X12_latest ex3) (show Go M_X12_makeVersion (none, r) 30 [some (aA v0), some (aI v1), some (aI x2), none, none, none, none] [aI x3] h from ?_)
    exact okj_X12_makeVersion_30 v0 v1 x2 x3 h  H
  · replace H := (gm_ite H).2 c1
    refine go_iloadn dX12_makeVersion_12 rfl ?_
    refine go_aloadn dX12_makeVersion_13 rfl ?_
    refine gm_getR fd_X12_38 dX12_makeVersion_14 H (fun x4 H => ?_)
    refine go_iconst (v := (1 : Int32)) dX12_makeVersion_17 rfl ?_
    refine gm_iald dX12_makeVersion_18 H (fun x5 H => ?_)
    obtain ⟨x6, ex6, H⟩ := bind_some H
    refine go_callS (vs := [aI x2, aI x5]) (stk := []) (o1 := (some (aI x6), h)) mk_X12_at ss_X12_makeVersion_146 dX12_makeVersion_19 rfl rfl (Nat.le_of_ble_eq_true rfl) (Nat.le_of_ble_eq_true rfl) (ok_X12_at ex6) (show Go M_X12_makeVersion (none, r) 22 [some (aA v0), some (aI v1), some (aI x2), none, none, none, none] [aI x6] h from ?_)
    refine go_goto (tgt := 30) dX12_makeVersion_22 (by decide) ?_
    exact okj_X12_makeVersion_30 v0 v1 x2 x6 h  H
/-! X12_changeLine -/
def j_X12_changeLine_91 (v0 : Nat) (v1 : Int32)  (h : Hp) : Option (Int32 × Hp) :=
  (gfI h v0 12 16).bind fun x1 => if ¬ x1 = 0 then (some ((1 : Int32), h)) else (rc h v0 12 (m_X12_makeVersion v0 v1 h)).bind fun x2 => some ((1 : Int32), x2)
set_option maxRecDepth 20000 in
theorem okj_X12_changeLine_91 {r : (Int32 × Hp)} (v0 : Nat) (v1 : Int32)  (h : Hp) (H : j_X12_changeLine_91 v0 v1 h = some r) : Go M_X12_changeLine (some (aI r.1), r.2) 91 [some (aA v0), some (aI v1), none, none] [] h := by
  unfold j_X12_changeLine_91 at H
  refine go_aloadn dX12_changeLine_91 rfl ?_
  refine gm_getI fd_X12_106 dX12_changeLine_92 H (fun x1 H => ?_)
  refine go_if_ne (tgt := 103) dX12_changeLine_95 (by decide) (fun c1 => ?_) (fun c1 => ?_)
  · replace H := (gm_ite H).1 c1
    refine go_iconst (v := (1 : Int32)) dX12_changeLine_103 rfl ?_
    obtain rfl := Option.some.inj H
    exact go_ireturn (x := (1 : Int32)) dX12_changeLine_104 (tyI_bool rfl (by decide))
  · replace H := (gm_ite H).2 c1
    refine go_aloadn dX12_changeLine_98 rfl ?_
    refine go_iloadn dX12_changeLine_99 rfl ?_
    obtain ⟨c2, x2, ex2, H⟩ := gm_rc H
    refine go_callV (vs := [aI v1]) (stk := []) (o1 := (none, x2)) mk_X12_makeVersion sv_X12_changeLine_190 cl_X12 rfl dX12_changeLine_100 c2 rfl rfl (Nat.le_of_ble_eq_true rfl) (Nat.le_of_ble_eq_true rfl) (ok_X12_makeVersion ex2) (show Go M_X12_changeLine (some (aI r.1), r.2) 103 [some (aA v0), some (aI v1), none, none] [] x2 from ?_)
    refine go_iconst (v := (1 : Int32)) dX12_changeLine_103 rfl ?_
    obtain rfl := Option.some.inj H
    exact go_ireturn (x := (1 : Int32)) dX12_changeLine_104 (tyI_bool rfl (by decide))
def j_X12_changeLine_85 (v0 : Nat) (v1 : Int32) (v2 : Int32)  (h : Hp) : Option (Int32 × Hp) :=
  (rc h v0 12 (m_X12_addsFault v0 (4 : Int32) v2 h)).bind fun x1 => j_X12_changeLine_91 v0 v1 x1
set_option maxRecDepth 20000 in
theorem okj_X12_changeLine_85 {r : (Int32 × Hp)} (v0 : Nat) (v1 : Int32) (v2 : Int32)  (h : Hp) (H : j_X12_changeLine_85 v0 v1 v2 h = some r) : Go M_X12_changeLine (some (aI r.1), r.2) 85 [some (aA v0), some (aI v1), some (aI v2), none] [] h := by
  unfold j_X12_changeLine_85 at H
  refine go_aloadn dX12_changeLine_85 rfl ?_
  refine go_iconst (v := (4 : Int32)) dX12_changeLine_86 rfl ?_
  refine go_iloadn dX12_changeLine_87 rfl ?_
  obtain ⟨c1, x1, ex1, H⟩ := gm_rc H
  refine go_callV (vs := [aI (4 : Int32), aI v2]) (stk := []) (o1 := (none, x1)) mk_X12_addsFault sv_X12_changeLine_116 cl_X12 rfl dX12_changeLine_88 c1 rfl rfl (Nat.le_of_ble_eq_true rfl) (Nat.le_of_ble_eq_true rfl) (ok_X12_addsFault ex1) (show Go M_X12_changeLine (some (aI r.1), r.2) 91 [some (aA v0), some (aI v1), some (aI v2), none] [] x1 from ?_)
  refine go_mask [true, true, false, false] (loc' := [some (aA v0), some (aI v1), none, none]) rfl ?_
  exact okj_X12_changeLine_91 v0 v1 x1  H
def j_X12_changeLine_73 (v0 : Nat) (v1 : Int32) (v2 : Int32) (v3 : Int32)  (h : Hp) : Option (Int32 × Hp) :=
  if v3 = 0 then j_X12_changeLine_85 v0 v1 v2 h else (rc h v0 12 (m_X12_isThere v0 v1 h)).bind fun x1 => if ¬ x1 = 0 then j_X12_changeLine_91 v0 v1 h else j_X12_changeLine_85 v0 v1 v2 h
set_option maxRecDepth 20000 in
theorem okj_X12_changeLine_73 {r : (Int32 × Hp)} (v0 : Nat) (v1 : Int32) (v2 : Int32) (v3 : Int32)  (h : Hp) (H : j_X12_changeLine_73 v0 v1 v2 v3 h = some r) : Go M_X12_changeLine (some (aI r.1), r.2) 73 [some (aA v0), some (aI v1), some (aI v2), some (aI v3)] [] h := by
  unfold j_X12_changeLine_73 at H
  refine go_iloadn dX12_changeLine_73 rfl ?_
  refine go_if_eq (tgt := 85) dX12_changeLine_74 (by decide) (fun c1 => ?_) (fun c1 => ?_)
  · replace H := (gm_ite H).1 c1
    refine go_mask [true, true, true, false] (loc' := [some (aA v0), some (aI v1), some (aI v2), none]) rfl ?_
    exact okj_X12_changeLine_85 v0 v1 v2 h  H
  · replace H := (gm_ite H).2 c1
    refine go_aloadn dX12_changeLine_77 rfl ?_
    refine go_iloadn dX12_changeLine_78 rfl ?_
    obtain ⟨c2, x1, ex1, H⟩ := gm_rc H
    refine go_callV (vs := [aI v1]) (stk := []) (o1 := (some (aI x1), h)) mk_X12_isThere sv_X12_changeLine_187 cl_X12 rfl dX12_changeLine_79 c2 rfl rfl (Nat.le_of_ble_eq_true rfl) (Nat.le_of_ble_eq_true rfl) (ok_X12_isThere ex1) (show Go M_X12_changeLine (some (aI r.1), r.2) 82 [some (aA v0), some (aI v1), some (aI v2), some (aI v3)] [aI x1] h from ?_)
    refine go_if_ne (tgt := 91) dX12_changeLine_82 (by decide) (fun c3 => ?_) (fun c3 => ?_)
    · replace H := (gm_ite H).1 c3
      refine go_mask [true, true, false, false] (loc' := [some (aA v0), some (aI v1), none, none]) rfl ?_
      exact okj_X12_changeLine_91 v0 v1 h  H
    · replace H := (gm_ite H).2 c3
      refine go_mask [true, true, true, false] (loc' := [some (aA v0), some (aI v1), some (aI v2), none]) rfl ?_
      exact okj_X12_changeLine_85 v0 v1 v2 h  H
def j_X12_changeLine_41 (v0 : Nat) (v1 : Int32) (v2 : Int32) (s0 : Int32) (h : Hp) : Option (Int32 × Hp) :=
  if s0 = 0 then j_X12_changeLine_73 v0 v1 v2 s0 h else (gfR h v0 12 18).bind fun x1 => (gfR h v0 12 19).bind fun x2 => (alI h x2 (0 : Int32)).bind fun x3 => (alI h x1 ((1 : Int32) + x3)).bind fun x4 => if ¬ x4 = (10 : Int32) then j_X12_changeLine_73 v0 v1 v2 s0 h else (rc h v0 12 (m_X12_addsFault v0 (3 : Int32) v2 h)).bind fun x5 => j_X12_changeLine_91 v0 v1 x5
set_option maxRecDepth 20000 in
theorem okj_X12_changeLine_41 {r : (Int32 × Hp)} (v0 : Nat) (v1 : Int32) (v2 : Int32) (s0 : Int32) (h : Hp) (H : j_X12_changeLine_41 v0 v1 v2 s0 h = some r) : Go M_X12_changeLine (some (aI r.1), r.2) 41 [some (aA v0), some (aI v1), some (aI v2), none] [aI s0] h := by
  unfold j_X12_changeLine_41 at H
  refine go_istoren (loc2 := [some (aA v0), some (aI v1), some (aI v2), some (aI s0)]) dX12_changeLine_41 rfl (by decide) rfl ?_
  refine go_iloadn dX12_changeLine_42 rfl ?_
  refine go_if_eq (tgt := 73) dX12_changeLine_43 (by decide) (fun c1 => ?_) (fun c1 => ?_)
  · replace H := (gm_ite H).1 c1
    exact okj_X12_changeLine_73 v0 v1 v2 s0 h  H
  · replace H := (gm_ite H).2 c1
    refine go_aloadn dX12_changeLine_46 rfl ?_
    refine gm_getR fd_X12_35 dX12_changeLine_47 H (fun x1 H => ?_)
    refine go_iconst (v := (1 : Int32)) dX12_changeLine_50 rfl ?_
    refine go_aloadn dX12_changeLine_51 rfl ?_
    refine gm_getR fd_X12_38 dX12_changeLine_52 H (fun x2 H => ?_)
    refine go_iconst (v := (0 : Int32)) dX12_changeLine_55 rfl ?_
    refine gm_iald dX12_changeLine_56 H (fun x3 H => ?_)
    refine go_iadd dX12_changeLine_57 ?_
    refine gm_iald dX12_changeLine_58 H (fun x4 H => ?_)
    refine go_bipush (v := (10 : Int32)) dX12_changeLine_59 rfl ?_
    refine go_icmp_ne (tgt := 73) dX12_changeLine_61 (by decide) (fun c2 => ?_) (fun c2 => ?_)
    · replace H := (gm_ite H).1 c2
      exact okj_X12_changeLine_73 v0 v1 v2 s0 h  H
    · replace H := (gm_ite H).2 c2
      refine go_aloadn dX12_changeLine_64 rfl ?_
      refine go_iconst (v := (3 : Int32)) dX12_changeLine_65 rfl ?_
      refine go_iloadn dX12_changeLine_66 rfl ?_
      obtain ⟨c3, x5, ex5, H⟩ := gm_rc H
      refine go_callV (vs := [aI (3 : Int32), aI v2]) (stk := []) (o1 := (none, x5)) mk_X12_addsFault sv_X12_changeLine_116 cl_X12 rfl dX12_changeLine_67 c3 rfl rfl (Nat.le_of_ble_eq_true rfl) (Nat.le_of_ble_eq_true rfl) (ok_X12_addsFault ex5) (show Go M_X12_changeLine (some (aI r.1), r.2) 70 [some (aA v0), some (aI v1), some (aI v2), some (aI s0)] [] x5 from ?_)
      refine go_goto (tgt := 91) dX12_changeLine_70 (by decide) ?_
      refine go_mask [true, true, false, false] (loc' := [some (aA v0), some (aI v1), none, none]) rfl ?_
      exact okj_X12_changeLine_91 v0 v1 x5  H
def m_X12_changeLine (v0 : Nat) (v1 : Int32) (v2 : Int32) (h : Hp) : Option (Int32 × Hp) :=
  (rc h v0 12 (m_X12_token v0 h)).bind fun x1 => (rc x1 v0 12 (m_X12_readChange v0 v1 x1)).bind fun x2 => if ¬ x2.1 = 0 then ((gfI x2.2 v0 12 22).bind fun x3 => if x3 = 0 then j_X12_changeLine_91 v0 v1 x2.2 else (gfR x2.2 v0 12 19).bind fun x4 => (alI x2.2 x4 (0 : Int32)).bind fun x5 => (gfR x2.2 v0 12 18).bind fun x6 => (alI x2.2 x6 (0 : Int32)).bind fun x7 => j_X12_changeLine_41 v0 v1 v2 (if x7 ≤ x5 then (0 : Int32) else (1 : Int32)) x2.2) else some ((0 : Int32), x2.2)
set_option maxRecDepth 20000 in
theorem ok_X12_changeLine {r : (Int32 × Hp)} {v0 : Nat} {v1 : Int32} {v2 : Int32} {h : Hp} (H : m_X12_changeLine v0 v1 v2 h = some r) : Ev M_X12_changeLine [aA v0, aI v1, aI v2] h (some (aI r.1), r.2) := by
  show Go M_X12_changeLine (some (aI r.1), r.2) 0 [some (aA v0), some (aI v1), some (aI v2), none] [] h
  unfold m_X12_changeLine at H
  refine go_aloadn dX12_changeLine_0 rfl ?_
  obtain ⟨c1, x1, ex1, H⟩ := gm_rc H
  refine go_callV (vs := []) (stk := []) (o1 := (none, x1)) mk_X12_token sv_X12_changeLine_124 cl_X12 rfl dX12_changeLine_1 c1 rfl rfl (Nat.le_of_ble_eq_true rfl) (Nat.le_of_ble_eq_true rfl) (ok_X12_token ex1) (show Go M_X12_changeLine (some (aI r.1), r.2) 4 [some (aA v0), some (aI v1), some (aI v2), none] [] x1 from ?_)
  refine go_aloadn dX12_changeLine_4 rfl ?_
  refine go_iloadn dX12_changeLine_5 rfl ?_
  obtain ⟨c2, x2, ex2, H⟩ := gm_rc H
  refine go_callV (vs := [aI v1]) (stk := []) (o1 := (some (aI x2.1), x2.2)) mk_X12_readChange sv_X12_changeLine_183 cl_X12 rfl dX12_changeLine_6 c2 rfl rfl (Nat.le_of_ble_eq_true rfl) (Nat.le_of_ble_eq_true rfl) (ok_X12_readChange ex2) (show Go M_X12_changeLine (some (aI r.1), r.2) 9 [some (aA v0), some (aI v1), some (aI v2), none] [aI x2.1] x2.2 from ?_)
  refine go_if_ne (tgt := 14) dX12_changeLine_9 (by decide) (fun c3 => ?_) (fun c3 => ?_)
  · replace H := (gm_ite H).1 c3
    refine go_aloadn dX12_changeLine_14 rfl ?_
    refine gm_getI fd_X12_120 dX12_changeLine_15 H (fun x3 H => ?_)
    refine go_if_eq (tgt := 91) dX12_changeLine_18 (by decide) (fun c4 => ?_) (fun c4 => ?_)
    · replace H := (gm_ite H).1 c4
      refine go_mask [true, true, false, false] (loc' := [some (aA v0), some (aI v1), none, none]) rfl ?_
      exact okj_X12_changeLine_91 v0 v1 x2.2  H
    · replace H := (gm_ite H).2 c4
      refine go_aloadn dX12_changeLine_21 rfl ?_
      refine gm_getR fd_X12_38 dX12_changeLine_22 H (fun x4 H => ?_)
      refine go_iconst (v := (0 : Int32)) dX12_changeLine_25 rfl ?_
      refine gm_iald dX12_changeLine_26 H (fun x5 H => ?_)
      refine go_aloadn dX12_changeLine_27 rfl ?_
      refine gm_getR fd_X12_35 dX12_changeLine_28 H (fun x6 H => ?_)
      refine go_iconst (v := (0 : Int32)) dX12_changeLine_31 rfl ?_
      refine gm_iald dX12_changeLine_32 H (fun x7 H => ?_)
      refine go_icmp_ge (tgt := 40) dX12_changeLine_33 (by decide) (fun c5 => ?_) (fun c5 => ?_)
      · rw [if_pos c5] at H
        refine go_iconst (v := (0 : Int32)) dX12_changeLine_40 rfl ?_
        exact okj_X12_changeLine_41 v0 v1 v2 (0 : Int32) x2.2  H
      · rw [if_neg c5] at H
        refine go_iconst (v := (1 : Int32)) dX12_changeLine_36 rfl ?_
        refine go_goto (tgt := 41) dX12_changeLine_37 (by decide) ?_
        exact okj_X12_changeLine_41 v0 v1 v2 (1 : Int32) x2.2  H
  · replace H := (gm_ite H).2 c3
    refine go_iconst (v := (0 : Int32)) dX12_changeLine_12 rfl ?_
    obtain rfl := Option.some.inj H
    exact go_ireturn (x := (0 : Int32)) dX12_changeLine_13 (tyI_bool rfl (by decide))
/-! X12_archiveLine -/
def j_X12_archiveLine_43  (s0 : Int32) (h : Hp) : Option (Int32 × Hp) :=
  (zb s0).bind fun x1 => some (x1, h)
set_option maxRecDepth 20000 in
theorem okj_X12_archiveLine_43 {r : (Int32 × Hp)}  (s0 : Int32) (h : Hp) (H : j_X12_archiveLine_43 s0 h = some r) : Go M_X12_archiveLine (some (aI r.1), r.2) 43 [none, none, none, none, none] [aI s0] h := by
  unfold j_X12_archiveLine_43 at H
  obtain ⟨hz, H⟩ := gm_zb H
  obtain rfl := Option.some.inj H
  exact go_ireturn (x := s0) dX12_archiveLine_43 (tyI_bool rfl hz)
def m_X12_archiveLine (v0 : Nat) (v1 : Int64) (v3 : Int32) (h : Hp) : Option (Int32 × Hp) :=
  (rc h v0 12 (m_X12_changeBy v0 v1 h)).bind fun x1 => if ¬ (lg_cmp v1 (6582115 : Int64)) = 0 then (if ¬ x1 = (-1 : Int32) then ((rc h v0 12 (m_X12_changeLine v0 x1 v3 h)).bind fun x2 => j_X12_archiveLine_43 x2.1 x2.2) else (rc h v0 12 (m_X12_fails v0 h)).bind fun x3 => j_X12_archiveLine_43 x3.1 x3.2) else (rc h v0 12 (m_X12_docLine v0 v3 h)).bind fun x4 => j_X12_archiveLine_43 x4.1 x4.2
set_option maxRecDepth 20000 in
theorem ok_X12_archiveLine {r : (Int32 × Hp)} {v0 : Nat} {v1 : Int64} {v3 : Int32} {h : Hp} (H : m_X12_archiveLine v0 v1 v3 h = some r) : Ev M_X12_archiveLine [aA v0, aL v1, aI v3] h (some (aI r.1), r.2) := by
  show Go M_X12_archiveLine (some (aI r.1), r.2) 0 [some (aA v0), some (aL v1), none, some (aI v3), none] [] h
  unfold m_X12_archiveLine at H
  refine go_aloadn dX12_archiveLine_0 rfl ?_
  refine go_lloadn dX12_archiveLine_1 rfl ?_
  obtain ⟨c1, x1, ex1, H⟩ := gm_rc H
  refine go_callV (vs := [aL v1]) (stk := []) (o1 := (some (aI x1), h)) mk_X12_changeBy sv_X12_archiveLine_193 cl_X12 rfl dX12_archiveLine_2 c1 rfl rfl (Nat.le_of_ble_eq_true rfl) (Nat.le_of_ble_eq_true rfl) (ok_X12_changeBy ex1) (show Go M_X12_archiveLine (some (aI r.1), r.2) 5 [some (aA v0), some (aL v1), none, some (aI v3), none] [aI x1] h from ?_)
  refine go_istore (loc2 := [some (aA v0), some (aL v1), none, some (aI v3), some (aI x1)]) dX12_archiveLine_5 (by decide) rfl ?_
  refine go_lloadn dX12_archiveLine_7 rfl ?_
  refine go_ldc2 (v := (6582115 : Int64)) tw1537 dX12_archiveLine_8 ?_
  refine go_lcmp dX12_archiveLine_11 ?_
  refine go_if_ne (tgt := 23) dX12_archiveLine_12 (by decide) (fun c2 => ?_) (fun c2 => ?_)
  · replace H := (gm_ite H).1 c2
    refine go_iload dX12_archiveLine_23 rfl ?_
    refine go_iconst (v := (-1 : Int32)) dX12_archiveLine_25 rfl ?_
    refine go_icmp_ne (tgt := 36) dX12_archiveLine_26 (by decide) (fun c3 => ?_) (fun c3 => ?_)
    · replace H := (gm_ite H).1 c3
      refine go_aloadn dX12_archiveLine_36 rfl ?_
      refine go_iload dX12_archiveLine_37 rfl ?_
      refine go_iloadn dX12_archiveLine_39 rfl ?_
      obtain ⟨c4, x2, ex2, H⟩ := gm_rc H
      refine go_callV (vs := [aI x1, aI v3]) (stk := []) (o1 := (some (aI x2.1), x2.2)) mk_X12_changeLine sv_X12_archiveLine_201 cl_X12 rfl dX12_archiveLine_40 c4 rfl rfl (Nat.le_of_ble_eq_true rfl) (Nat.le_of_ble_eq_true rfl) (ok_X12_changeLine ex2) (show Go M_X12_archiveLine (some (aI r.1), r.2) 43 [some (aA v0), some (aL v1), none, some (aI v3), some (aI x1)] [aI x2.1] x2.2 from ?_)
      refine go_mask [false, false, false, false, false] (loc' := [none, none, none, none, none]) rfl ?_
      exact okj_X12_archiveLine_43 x2.1 x2.2  H
    · replace H := (gm_ite H).2 c3
      refine go_aloadn dX12_archiveLine_29 rfl ?_
      obtain ⟨c5, x3, ex3, H⟩ := gm_rc H
      refine go_callV (vs := []) (stk := []) (o1 := (some (aI x3.1), x3.2)) mk_X12_fails sv_X12_archiveLine_112 cl_X12 rfl dX12_archiveLine_30 c5 rfl rfl (Nat.le_of_ble_eq_true rfl) (Nat.le_of_ble_eq_true rfl) (ok_X12_fails ex3) (show Go M_X12_archiveLine (some (aI r.1), r.2) 33 [some (aA v0), some (aL v1), none, some (aI v3), some (aI x1)] [aI x3.1] x3.2 from ?_)
      refine go_goto (tgt := 43) dX12_archiveLine_33 (by decide) ?_
      refine go_mask [false, false, false, false, false] (loc' := [none, none, none, none, none]) rfl ?_
      exact okj_X12_archiveLine_43 x3.1 x3.2  H
  · replace H := (gm_ite H).2 c2
    refine go_aloadn dX12_archiveLine_15 rfl ?_
    refine go_iloadn dX12_archiveLine_16 rfl ?_
    obtain ⟨c6, x4, ex4, H⟩ := gm_rc H
    refine go_callV (vs := [aI v3]) (stk := []) (o1 := (some (aI x4.1), x4.2)) mk_X12_docLine sv_X12_archiveLine_198 cl_X12 rfl dX12_archiveLine_17 c6 rfl rfl (Nat.le_of_ble_eq_true rfl) (Nat.le_of_ble_eq_true rfl) (ok_X12_docLine ex4) (show Go M_X12_archiveLine (some (aI r.1), r.2) 20 [some (aA v0), some (aL v1), none, some (aI v3), some (aI x1)] [aI x4.1] x4.2 from ?_)
    refine go_goto (tgt := 43) dX12_archiveLine_20 (by decide) ?_
    refine go_mask [false, false, false, false, false] (loc' := [none, none, none, none, none]) rfl ?_
    exact okj_X12_archiveLine_43 x4.1 x4.2  H
/-! X12_askingBy -/
def j_X12_askingBy_99  (s0 : Int32) (h : Hp) : Option Int32 :=
  some s0
set_option maxRecDepth 20000 in
theorem okj_X12_askingBy_99 {r : Int32}  (s0 : Int32) (h : Hp) (H : j_X12_askingBy_99 s0 h = some r) : Go M_X12_askingBy (some (aI r), h) 99 [none, none, none] [aI s0] h := by
  unfold j_X12_askingBy_99 at H
  obtain rfl := Option.some.inj H
  exact go_ireturn dX12_askingBy_99 (tyI_int rfl)
def m_X12_askingBy (v0 : Nat) (v1 : Int64) (h : Hp) : Option Int32 :=
  j_X12_askingBy_99 (if ¬ (lg_cmp v1 (123593897898853 : Int64)) = 0 then (if ¬ (lg_cmp v1 (1852137842 : Int64)) = 0 then (if ¬ (lg_cmp v1 (1835101817 : Int64)) = 0 then (if ¬ (lg_cmp v1 (7237492 : Int64)) = 0 then (if ¬ (lg_cmp v1 (1702258034 : Int64)) = 0 then (if ¬ (lg_cmp v1 (7234935 : Int64)) = 0 then (if ¬ (lg_cmp v1 (6385252 : Int64)) = 0 then (if ¬ (lg_cmp v1 (28530 : Int64)) = 0 then (-1 : Int32) else (7 : Int32)) else (6 : Int32)) else (5 : Int32)) else (4 : Int32)) else (3 : Int32)) else (2 : Int32)) else (1 : Int32)) else (0 : Int32)) h
set_option maxRecDepth 20000 in
theorem ok_X12_askingBy {r : Int32} {v0 : Nat} {v1 : Int64} {h : Hp} (H : m_X12_askingBy v0 v1 h = some r) : Ev M_X12_askingBy [aA v0, aL v1] h (some (aI r), h) := by
  show Go M_X12_askingBy (some (aI r), h) 0 [some (aA v0), some (aL v1), none] [] h
  unfold m_X12_askingBy at H
  refine go_lloadn dX12_askingBy_0 rfl ?_
  refine go_ldc2 (v := (123593897898853 : Int64)) tw1620 dX12_askingBy_1 ?_
  refine go_lcmp dX12_askingBy_4 ?_
  refine go_if_ne (tgt := 12) dX12_askingBy_5 (by decide) (fun c1 => ?_) (fun c1 => ?_)
  · rw [if_pos c1] at H
    refine go_lloadn dX12_askingBy_12 rfl ?_
    refine go_ldc2 (v := (1852137842 : Int64)) tw1621 dX12_askingBy_13 ?_
    refine go_lcmp dX12_askingBy_16 ?_
    refine go_if_ne (tgt := 24) dX12_askingBy_17 (by decide) (fun c2 => ?_) (fun c2 => ?_)
    · rw [if_pos c2] at H
      refine go_lloadn dX12_askingBy_24 rfl ?_
      refine go_ldc2 (v := (1835101817 : Int64)) tw1622 dX12_askingBy_25 ?_
      refine go_lcmp dX12_askingBy_28 ?_
      refine go_if_ne (tgt := 36) dX12_askingBy_29 (by decide) (fun c3 => ?_) (fun c3 => ?_)
      · rw [if_pos c3] at H
        refine go_lloadn dX12_askingBy_36 rfl ?_
        refine go_ldc2 (v := (7237492 : Int64)) tw1623 dX12_askingBy_37 ?_
        refine go_lcmp dX12_askingBy_40 ?_
        refine go_if_ne (tgt := 48) dX12_askingBy_41 (by decide) (fun c4 => ?_) (fun c4 => ?_)
        · rw [if_pos c4] at H
          refine go_lloadn dX12_askingBy_48 rfl ?_
          refine go_ldc2 (v := (1702258034 : Int64)) tw1624 dX12_askingBy_49 ?_
          refine go_lcmp dX12_askingBy_52 ?_
          refine go_if_ne (tgt := 60) dX12_askingBy_53 (by decide) (fun c5 => ?_) (fun c5 => ?_)
          · rw [if_pos c5] at H
            refine go_lloadn dX12_askingBy_60 rfl ?_
            refine go_ldc2 (v := (7234935 : Int64)) tw1625 dX12_askingBy_61 ?_
            refine go_lcmp dX12_askingBy_64 ?_
            refine go_if_ne (tgt := 72) dX12_askingBy_65 (by decide) (fun c6 => ?_) (fun c6 => ?_)
            · rw [if_pos c6] at H
              refine go_lloadn dX12_askingBy_72 rfl ?_
              refine go_ldc2 (v := (6385252 : Int64)) tw1626 dX12_askingBy_73 ?_
              refine go_lcmp dX12_askingBy_76 ?_
              refine go_if_ne (tgt := 85) dX12_askingBy_77 (by decide) (fun c7 => ?_) (fun c7 => ?_)
              · rw [if_pos c7] at H
                refine go_lloadn dX12_askingBy_85 rfl ?_
                refine go_ldc2 (v := (28530 : Int64)) tw1627 dX12_askingBy_86 ?_
                refine go_lcmp dX12_askingBy_89 ?_
                refine go_if_ne (tgt := 98) dX12_askingBy_90 (by decide) (fun c8 => ?_) (fun c8 => ?_)
                · rw [if_pos c8] at H
                  refine go_iconst (v := (-1 : Int32)) dX12_askingBy_98 rfl ?_
                  refine go_mask [false, false, false] (loc' := [none, none, none]) rfl ?_
                  exact okj_X12_askingBy_99 (-1 : Int32) h  H
                · rw [if_neg c8] at H
                  refine go_bipush (v := (7 : Int32)) dX12_askingBy_93 rfl ?_
                  refine go_goto (tgt := 99) dX12_askingBy_95 (by decide) ?_
                  refine go_mask [false, false, false] (loc' := [none, none, none]) rfl ?_
                  exact okj_X12_askingBy_99 (7 : Int32) h  H
              · rw [if_neg c7] at H
                refine go_bipush (v := (6 : Int32)) dX12_askingBy_80 rfl ?_
                refine go_goto (tgt := 99) dX12_askingBy_82 (by decide) ?_
                refine go_mask [false, false, false] (loc' := [none, none, none]) rfl ?_
                exact okj_X12_askingBy_99 (6 : Int32) h  H
            · rw [if_neg c6] at H
              refine go_iconst (v := (5 : Int32)) dX12_askingBy_68 rfl ?_
              refine go_goto (tgt := 99) dX12_askingBy_69 (by decide) ?_
              refine go_mask [false, false, false] (loc' := [none, none, none]) rfl ?_
              exact okj_X12_askingBy_99 (5 : Int32) h  H
          · rw [if_neg c5] at H
            refine go_iconst (v := (4 : Int32)) dX12_askingBy_56 rfl ?_
            refine go_goto (tgt := 99) dX12_askingBy_57 (by decide) ?_
            refine go_mask [false, false, false] (loc' := [none, none, none]) rfl ?_
            exact okj_X12_askingBy_99 (4 : Int32) h  H
        · rw [if_neg c4] at H
          refine go_iconst (v := (3 : Int32)) dX12_askingBy_44 rfl ?_
          refine go_goto (tgt := 99) dX12_askingBy_45 (by decide) ?_
          refine go_mask [false, false, false] (loc' := [none, none, none]) rfl ?_
          exact okj_X12_askingBy_99 (3 : Int32) h  H
      · rw [if_neg c3] at H
        refine go_iconst (v := (2 : Int32)) dX12_askingBy_32 rfl ?_
        refine go_goto (tgt := 99) dX12_askingBy_33 (by decide) ?_
        refine go_mask [false, false, false] (loc' := [none, none, none]) rfl ?_
        exact okj_X12_askingBy_99 (2 : Int32) h  H
    · rw [if_neg c2] at H
      refine go_iconst (v := (1 : Int32)) dX12_askingBy_20 rfl ?_
      refine go_goto (tgt := 99) dX12_askingBy_21 (by decide) ?_
      refine go_mask [false, false, false] (loc' := [none, none, none]) rfl ?_
      exact okj_X12_askingBy_99 (1 : Int32) h  H
  · rw [if_neg c1] at H
    refine go_iconst (v := (0 : Int32)) dX12_askingBy_8 rfl ?_
    refine go_goto (tgt := 99) dX12_askingBy_9 (by decide) ?_
    refine go_mask [false, false, false] (loc' := [none, none, none]) rfl ?_
    exact okj_X12_askingBy_99 (0 : Int32) h  H
/-! X12_readAsking -/
def j_X12_readAsking_104  (s0 : Int32) (h : Hp) : Option (Int32 × Hp) :=
  (zb s0).bind fun x1 => some (x1, h)
set_option maxRecDepth 20000 in
theorem okj_X12_readAsking_104 {r : (Int32 × Hp)}  (s0 : Int32) (h : Hp) (H : j_X12_readAsking_104 s0 h = some r) : Go M_X12_readAsking (some (aI r.1), r.2) 104 [none, none, none] [aI s0] h := by
  unfold j_X12_readAsking_104 at H
  obtain ⟨hz, H⟩ := gm_zb H
  obtain rfl := Option.some.inj H
  exact go_ireturn (x := s0) dX12_readAsking_104 (tyI_bool rfl hz)
def j_X12_readAsking_128  (s0 : Int32) (h : Hp) : Option (Int32 × Hp) :=
  (zb s0).bind fun x1 => some (x1, h)
set_option maxRecDepth 20000 in
theorem okj_X12_readAsking_128 {r : (Int32 × Hp)}  (s0 : Int32) (h : Hp) (H : j_X12_readAsking_128 s0 h = some r) : Go M_X12_readAsking (some (aI r.1), r.2) 128 [none, none, none] [aI s0] h := by
  unfold j_X12_readAsking_128 at H
  obtain ⟨hz, H⟩ := gm_zb H
  obtain rfl := Option.some.inj H
  exact go_ireturn (x := s0) dX12_readAsking_128 (tyI_bool rfl hz)
def j_X12_readAsking_159 (v0 : Nat) (v2 : Int32)  (h : Hp) : Option (Int32 × Hp) :=
  (rc h v0 12 (m_X12_take v0 (1 : Int32) (0 : Int32) (v2 - (1 : Int32)) h)).bind fun x1 => (zb x1.1).bind fun x2 => some (x2, x1.2)
set_option maxRecDepth 20000 in
theorem okj_X12_readAsking_159 {r : (Int32 × Hp)} (v0 : Nat) (v2 : Int32)  (h : Hp) (H : j_X12_readAsking_159 v0 v2 h = some r) : Go M_X12_readAsking (some (aI r.1), r.2) 159 [some (aA v0), none, some (aI v2)] [] h := by
  unfold j_X12_readAsking_159 at H
  refine go_aloadn dX12_readAsking_159 rfl ?_
  refine go_iconst (v := (1 : Int32)) dX12_readAsking_160 rfl ?_
  refine go_iconst (v := (0 : Int32)) dX12_readAsking_161 rfl ?_
  refine go_iloadn dX12_readAsking_162 rfl ?_
  refine go_iconst (v := (1 : Int32)) dX12_readAsking_163 rfl ?_
  refine go_isub dX12_readAsking_164 ?_
  obtain ⟨c1, x1, ex1, H⟩ := gm_rc H
  refine go_callV (vs := [aI (1 : Int32), aI (0 : Int32), aI (v2 - (1 : Int32))]) (stk := []) (o1 := (some (aI x1.1), x1.2)) mk_X12_take sv_X12_readAsking_177 cl_X12 rfl dX12_readAsking_165 c1 rfl rfl (Nat.le_of_ble_eq_true rfl) (Nat.le_of_ble_eq_true rfl) (ok_X12_take ex1) (show Go M_X12_readAsking (some (aI r.1), r.2) 168 [some (aA v0), none, some (aI v2)] [aI x1.1] x1.2 from ?_)
  obtain ⟨hz, H⟩ := gm_zb H
  obtain rfl := Option.some.inj H
  exact go_ireturn (x := x1.1) dX12_readAsking_168 (tyI_bool rfl hz)
def j_X12_readAsking_158  (s0 : Int32) (h : Hp) : Option (Int32 × Hp) :=
  (zb s0).bind fun x1 => some (x1, h)
set_option maxRecDepth 20000 in
theorem okj_X12_readAsking_158 {r : (Int32 × Hp)}  (s0 : Int32) (h : Hp) (H : j_X12_readAsking_158 s0 h = some r) : Go M_X12_readAsking (some (aI r.1), r.2) 158 [none, none, none] [aI s0] h := by
  unfold j_X12_readAsking_158 at H
  obtain ⟨hz, H⟩ := gm_zb H
  obtain rfl := Option.some.inj H
  exact go_ireturn (x := s0) dX12_readAsking_158 (tyI_bool rfl hz)
def j_X12_readAsking_129 (v0 : Nat) (v2 : Int32)  (h : Hp) : Option (Int32 × Hp) :=
  (rc h v0 12 (m_X12_take v0 (1 : Int32) (0 : Int32) (v2 - (1 : Int32)) h)).bind fun x1 => if x1.1 = 0 then j_X12_readAsking_158 (0 : Int32) x1.2 else (rc x1.2 v0 12 (m_X12_take v0 (2 : Int32) (0 : Int32) (v2 - (1 : Int32)) x1.2)).bind fun x2 => j_X12_readAsking_158 (if x2.1 = 0 then (0 : Int32) else (1 : Int32)) x2.2
set_option maxRecDepth 20000 in
theorem okj_X12_readAsking_129 {r : (Int32 × Hp)} (v0 : Nat) (v2 : Int32)  (h : Hp) (H : j_X12_readAsking_129 v0 v2 h = some r) : Go M_X12_readAsking (some (aI r.1), r.2) 129 [some (aA v0), none, some (aI v2)] [] h := by
  unfold j_X12_readAsking_129 at H
  refine go_aloadn dX12_readAsking_129 rfl ?_
  refine go_iconst (v := (1 : Int32)) dX12_readAsking_130 rfl ?_
  refine go_iconst (v := (0 : Int32)) dX12_readAsking_131 rfl ?_
  refine go_iloadn dX12_readAsking_132 rfl ?_
  refine go_iconst (v := (1 : Int32)) dX12_readAsking_133 rfl ?_
  refine go_isub dX12_readAsking_134 ?_
  obtain ⟨c1, x1, ex1, H⟩ := gm_rc H
  refine go_callV (vs := [aI (1 : Int32), aI (0 : Int32), aI (v2 - (1 : Int32))]) (stk := []) (o1 := (some (aI x1.1), x1.2)) mk_X12_take sv_X12_readAsking_177 cl_X12 rfl dX12_readAsking_135 c1 rfl rfl (Nat.le_of_ble_eq_true rfl) (Nat.le_of_ble_eq_true rfl) (ok_X12_take ex1) (show Go M_X12_readAsking (some (aI r.1), r.2) 138 [some (aA v0), none, some (aI v2)] [aI x1.1] x1.2 from ?_)
  refine go_if_eq (tgt := 157) dX12_readAsking_138 (by decide) (fun c2 => ?_) (fun c2 => ?_)
  · replace H := (gm_ite H).1 c2
    refine go_iconst (v := (0 : Int32)) dX12_readAsking_157 rfl ?_
    refine go_mask [false, false, false] (loc' := [none, none, none]) rfl ?_
    exact okj_X12_readAsking_158 (0 : Int32) x1.2  H
  · replace H := (gm_ite H).2 c2
    refine go_aloadn dX12_readAsking_141 rfl ?_
    refine go_iconst (v := (2 : Int32)) dX12_readAsking_142 rfl ?_
    refine go_iconst (v := (0 : Int32)) dX12_readAsking_143 rfl ?_
    refine go_iloadn dX12_readAsking_144 rfl ?_
    refine go_iconst (v := (1 : Int32)) dX12_readAsking_145 rfl ?_
    refine go_isub dX12_readAsking_146 ?_
    obtain ⟨c3, x2, ex2, H⟩ := gm_rc H
    refine go_callV (vs := [aI (2 : Int32), aI (0 : Int32), aI (v2 - (1 : Int32))]) (stk := []) (o1 := (some (aI x2.1), x2.2)) mk_X12_take sv_X12_readAsking_177 cl_X12 rfl dX12_readAsking_147 c3 rfl rfl (Nat.le_of_ble_eq_true rfl) (Nat.le_of_ble_eq_true rfl) (ok_X12_take ex2) (show Go M_X12_readAsking (some (aI r.1), r.2) 150 [some (aA v0), none, some (aI v2)] [aI x2.1] x2.2 from ?_)
    refine go_if_eq (tgt := 157) dX12_readAsking_150 (by decide) (fun c4 => ?_) (fun c4 => ?_)
    · rw [if_pos c4] at H
      refine go_iconst (v := (0 : Int32)) dX12_readAsking_157 rfl ?_
      refine go_mask [false, false, false] (loc' := [none, none, none]) rfl ?_
      exact okj_X12_readAsking_158 (0 : Int32) x2.2  H
    · rw [if_neg c4] at H
      refine go_iconst (v := (1 : Int32)) dX12_readAsking_153 rfl ?_
      refine go_goto (tgt := 158) dX12_readAsking_154 (by decide) ?_
      refine go_mask [false, false, false] (loc' := [none, none, none]) rfl ?_
      exact okj_X12_readAsking_158 (1 : Int32) x2.2  H
def m_X12_readAsking (v0 : Nat) (v1 : Int32) (v2 : Int32) (h : Hp) : Option (Int32 × Hp) :=
  if v1 = (0 : Int32) then ((rc h v0 12 (m_X12_takeWord v0 h)).bind fun x1 => if ¬ x1.1 = 0 then ((rc x1.2 v0 12 (m_X12_takeWords v0 (4 : Int32) x1.2)).bind fun x2 => (gfR x2 v0 12 19).bind fun x3 => (gfI x2 v0 12 21).bind fun x4 => (asI x2 x3 (1 : Int32) x4).bind fun hh1 => some ((1 : Int32), hh1)) else some ((0 : Int32), x1.2)) else if v1 = (1 : Int32) then ((rc h v0 12 (m_X12_takeWord v0 h)).bind fun x5 => if x5.1 = 0 then j_X12_readAsking_104 (0 : Int32) x5.2 else (rc x5.2 v0 12 (m_X12_takeWord v0 x5.2)).bind fun x6 => if x6.1 = 0 then j_X12_readAsking_104 (0 : Int32) x6.2 else (rc x6.2 v0 12 (m_X12_take v0 (1 : Int32) (1 : Int32) (9 : Int32) x6.2)).bind fun x7 => j_X12_readAsking_104 (if x7.1 = 0 then (0 : Int32) else (1 : Int32)) x7.2) else if v1 = (2 : Int32) then ((rc h v0 12 (m_X12_takeWord v0 h)).bind fun x8 => if x8.1 = 0 then j_X12_readAsking_128 (0 : Int32) x8.2 else (rc x8.2 v0 12 (m_X12_take v0 (1 : Int32) (1 : Int32) (9 : Int32) x8.2)).bind fun x9 => j_X12_readAsking_128 (if x9.1 = 0 then (0 : Int32) else (1 : Int32)) x9.2) else if v1 = (3 : Int32) then (j_X12_readAsking_159 v0 v2 h) else if v1 = (4 : Int32) then (j_X12_readAsking_159 v0 v2 h) else if v1 = (5 : Int32) then (j_X12_readAsking_159 v0 v2 h) else if v1 = (6 : Int32) then (j_X12_readAsking_129 v0 v2 h) else if v1 = (7 : Int32) then (j_X12_readAsking_129 v0 v2 h) else j_X12_readAsking_159 v0 v2 h
set_option maxRecDepth 20000 in
theorem ok_X12_readAsking {r : (Int32 × Hp)} {v0 : Nat} {v1 : Int32} {v2 : Int32} {h : Hp} (H : m_X12_readAsking v0 v1 v2 h = some r) : Ev M_X12_readAsking [aA v0, aI v1, aI v2] h (some (aI r.1), r.2) := by
  show Go M_X12_readAsking (some (aI r.1), r.2) 0 [some (aA v0), some (aI v1), some (aI v2)] [] h
  unfold m_X12_readAsking at H
  refine go_iloadn dX12_readAsking_0 rfl ?_
  by_cases c1 : v1 = (0 : Int32)
  · replace H := (gm_ite H).1 c1
    refine go_eqI c1 ?_
    refine go_tableIn (tgt := 48) dX12_readAsking_1 (by decide) (by decide) rfl (by decide) ?_
    refine go_aloadn dX12_readAsking_48 rfl ?_
    obtain ⟨c2, x1, ex1, H⟩ := gm_rc H
    refine go_callV (vs := []) (stk := []) (o1 := (some (aI x1.1), x1.2)) mk_X12_takeWord sv_X12_readAsking_136 cl_X12 rfl dX12_readAsking_49 c2 rfl rfl (Nat.le_of_ble_eq_true rfl) (Nat.le_of_ble_eq_true rfl) (ok_X12_takeWord ex1) (show Go M_X12_readAsking (some (aI r.1), r.2) 52 [some (aA v0), some (aI v1), some (aI v2)] [aI x1.1] x1.2 from ?_)
    refine go_if_ne (tgt := 57) dX12_readAsking_52 (by decide) (fun c3 => ?_) (fun c3 => ?_)
    · replace H := (gm_ite H).1 c3
      refine go_aloadn dX12_readAsking_57 rfl ?_
      refine go_iconst (v := (4 : Int32)) dX12_readAsking_58 rfl ?_
      obtain ⟨c4, x2, ex2, H⟩ := gm_rc H
      refine go_callV (vs := [aI (4 : Int32)]) (stk := []) (o1 := (none, x2)) mk_X12_takeWords sv_X12_readAsking_153 cl_X12 rfl dX12_readAsking_59 c4 rfl rfl (Nat.le_of_ble_eq_true rfl) (Nat.le_of_ble_eq_true rfl) (ok_X12_takeWords ex2) (show Go M_X12_readAsking (some (aI r.1), r.2) 62 [some (aA v0), some (aI v1), some (aI v2)] [] x2 from ?_)
      refine go_aloadn dX12_readAsking_62 rfl ?_
      refine gm_getR fd_X12_38 dX12_readAsking_63 H (fun x3 H => ?_)
      refine go_iconst (v := (1 : Int32)) dX12_readAsking_66 rfl ?_
      refine go_aloadn dX12_readAsking_67 rfl ?_
      refine gm_getI fd_X12_129 dX12_readAsking_68 H (fun x4 H => ?_)
      refine gm_iast dX12_readAsking_71 H (fun hh1 H => ?_)
      refine go_iconst (v := (1 : Int32)) dX12_readAsking_72 rfl ?_
      obtain rfl := Option.some.inj H
      exact go_ireturn (x := (1 : Int32)) dX12_readAsking_73 (tyI_bool rfl (by decide))
    · replace H := (gm_ite H).2 c3
      refine go_iconst (v := (0 : Int32)) dX12_readAsking_55 rfl ?_
      obtain rfl := Option.some.inj H
      exact go_ireturn (x := (0 : Int32)) dX12_readAsking_56 (tyI_bool rfl (by decide))
  · replace H := (gm_ite H).2 c1
    by_cases c5 : v1 = (1 : Int32)
    · replace H := (gm_ite H).1 c5
      refine go_eqI c5 ?_
      refine go_tableIn (tgt := 74) dX12_readAsking_1 (by decide) (by decide) rfl (by decide) ?_
      refine go_aloadn dX12_readAsking_74 rfl ?_
      obtain ⟨c6, x5, ex5, H⟩ := gm_rc H
      refine go_callV (vs := []) (stk := []) (o1 := (some (aI x5.1), x5.2)) mk_X12_takeWord sv_X12_readAsking_136 cl_X12 rfl dX12_readAsking_75 c6 rfl rfl (Nat.le_of_ble_eq_true rfl) (Nat.le_of_ble_eq_true rfl) (ok_X12_takeWord ex5) (show Go M_X12_readAsking (some (aI r.1), r.2) 78 [some (aA v0), some (aI v1), some (aI v2)] [aI x5.1] x5.2 from ?_)
      refine go_if_eq (tgt := 103) dX12_readAsking_78 (by decide) (fun c7 => ?_) (fun c7 => ?_)
      · replace H := (gm_ite H).1 c7
        refine go_iconst (v := (0 : Int32)) dX12_readAsking_103 rfl ?_
        refine go_mask [false, false, false] (loc' := [none, none, none]) rfl ?_
        exact okj_X12_readAsking_104 (0 : Int32) x5.2  H
      · replace H := (gm_ite H).2 c7
        refine go_aloadn dX12_readAsking_81 rfl ?_
        obtain ⟨c8, x6, ex6, H⟩ := gm_rc H
        refine go_callV (vs := []) (stk := []) (o1 := (some (aI x6.1), x6.2)) mk_X12_takeWord sv_X12_readAsking_136 cl_X12 rfl dX12_readAsking_82 c8 rfl rfl (Nat.le_of_ble_eq_true rfl) (Nat.le_of_ble_eq_true rfl) (ok_X12_takeWord ex6) (show Go M_X12_readAsking (some (aI r.1), r.2) 85 [some (aA v0), some (aI v1), some (aI v2)] [aI x6.1] x6.2 from ?_)
        refine go_if_eq (tgt := 103) dX12_readAsking_85 (by decide) (fun c9 => ?_) (fun c9 => ?_)
        · replace H := (gm_ite H).1 c9
          refine go_iconst (v := (0 : Int32)) dX12_readAsking_103 rfl ?_
          refine go_mask [false, false, false] (loc' := [none, none, none]) rfl ?_
          exact okj_X12_readAsking_104 (0 : Int32) x6.2  H
        · replace H := (gm_ite H).2 c9
          refine go_aloadn dX12_readAsking_88 rfl ?_
          refine go_iconst (v := (1 : Int32)) dX12_readAsking_89 rfl ?_
          refine go_iconst (v := (1 : Int32)) dX12_readAsking_90 rfl ?_
          refine go_bipush (v := (9 : Int32)) dX12_readAsking_91 rfl ?_
          obtain ⟨c10, x7, ex7, H⟩ := gm_rc H
          refine go_callV (vs := [aI (1 : Int32), aI (1 : Int32), aI (9 : Int32)]) (stk := []) (o1 := (some (aI x7.1), x7.2)) mk_X12_take sv_X12_readAsking_177 cl_X12 rfl dX12_readAsking_93 c10 rfl rfl (Nat.le_of_ble_eq_true rfl) (Nat.le_of_ble_eq_true rfl) (ok_X12_take ex7) (show Go M_X12_readAsking (some (aI r.1), r.2) 96 [some (aA v0), some (aI v1), some (aI v2)] [aI x7.1] x7.2 from ?_)
          refine go_if_eq (tgt := 103) dX12_readAsking_96 (by decide) (fun c11 => ?_) (fun c11 => ?_)
          · rw [if_pos c11] at H
            refine go_iconst (v := (0 : Int32)) dX12_readAsking_103 rfl ?_
            refine go_mask [false, false, false] (loc' := [none, none, none]) rfl ?_
            exact okj_X12_readAsking_104 (0 : Int32) x7.2  H
          · rw [if_neg c11] at H
            refine go_iconst (v := (1 : Int32)) dX12_readAsking_99 rfl ?_
            refine go_goto (tgt := 104) dX12_readAsking_100 (by decide) ?_
            refine go_mask [false, false, false] (loc' := [none, none, none]) rfl ?_
            exact okj_X12_readAsking_104 (1 : Int32) x7.2  H
    · replace H := (gm_ite H).2 c5
      by_cases c12 : v1 = (2 : Int32)
      · replace H := (gm_ite H).1 c12
        refine go_eqI c12 ?_
        refine go_tableIn (tgt := 105) dX12_readAsking_1 (by decide) (by decide) rfl (by decide) ?_
        refine go_aloadn dX12_readAsking_105 rfl ?_
        obtain ⟨c13, x8, ex8, H⟩ := gm_rc H
        refine go_callV (vs := []) (stk := []) (o1 := (some (aI x8.1), x8.2)) mk_X12_takeWord sv_X12_readAsking_136 cl_X12 rfl dX12_readAsking_106 c13 rfl rfl (Nat.le_of_ble_eq_true rfl) (Nat.le_of_ble_eq_true rfl) (ok_X12_takeWord ex8) (show Go M_X12_readAsking (some (aI r.1), r.2) 109 [some (aA v0), some (aI v1), some (aI v2)] [aI x8.1] x8.2 from ?_)
        refine go_if_eq (tgt := 127) dX12_readAsking_109 (by decide) (fun c14 => ?_) (fun c14 => ?_)
        · replace H := (gm_ite H).1 c14
          refine go_iconst (v := (0 : Int32)) dX12_readAsking_127 rfl ?_
          refine go_mask [false, false, false] (loc' := [none, none, none]) rfl ?_
          exact okj_X12_readAsking_128 (0 : Int32) x8.2  H
        · replace H := (gm_ite H).2 c14
          refine go_aloadn dX12_readAsking_112 rfl ?_
          refine go_iconst (v := (1 : Int32)) dX12_readAsking_113 rfl ?_
          refine go_iconst (v := (1 : Int32)) dX12_readAsking_114 rfl ?_
          refine go_bipush (v := (9 : Int32)) dX12_readAsking_115 rfl ?_
          obtain ⟨c15, x9, ex9, H⟩ := gm_rc H
          refine go_callV (vs := [aI (1 : Int32), aI (1 : Int32), aI (9 : Int32)]) (stk := []) (o1 := (some (aI x9.1), x9.2)) mk_X12_take sv_X12_readAsking_177 cl_X12 rfl dX12_readAsking_117 c15 rfl rfl (Nat.le_of_ble_eq_true rfl) (Nat.le_of_ble_eq_true rfl) (ok_X12_take ex9) (show Go M_X12_readAsking (some (aI r.1), r.2) 120 [some (aA v0), some (aI v1), some (aI v2)] [aI x9.1] x9.2 from ?_)
          refine go_if_eq (tgt := 127) dX12_readAsking_120 (by decide) (fun c16 => ?_) (fun c16 => ?_)
          · rw [if_pos c16] at H
            refine go_iconst (v := (0 : Int32)) dX12_readAsking_127 rfl ?_
            refine go_mask [false, false, false] (loc' := [none, none, none]) rfl ?_
            exact okj_X12_readAsking_128 (0 : Int32) x9.2  H
          · rw [if_neg c16] at H
            refine go_iconst (v := (1 : Int32)) dX12_readAsking_123 rfl ?_
            refine go_goto (tgt := 128) dX12_readAsking_124 (by decide) ?_
            refine go_mask [false, false, false] (loc' := [none, none, none]) rfl ?_
            exact okj_X12_readAsking_128 (1 : Int32) x9.2  H
      · replace H := (gm_ite H).2 c12
        by_cases c17 : v1 = (3 : Int32)
        · replace H := (gm_ite H).1 c17
          refine go_eqI c17 ?_
          refine go_tableIn (tgt := 159) dX12_readAsking_1 (by decide) (by decide) rfl (by decide) ?_
          refine go_mask [true, false, true] (loc' := [some (aA v0), none, some (aI v2)]) rfl ?_
          exact okj_X12_readAsking_159 v0 v2 h  H
        · replace H := (gm_ite H).2 c17
          by_cases c18 : v1 = (4 : Int32)
          · replace H := (gm_ite H).1 c18
            refine go_eqI c18 ?_
            refine go_tableIn (tgt := 159) dX12_readAsking_1 (by decide) (by decide) rfl (by decide) ?_
            refine go_mask [true, false, true] (loc' := [some (aA v0), none, some (aI v2)]) rfl ?_
            exact okj_X12_readAsking_159 v0 v2 h  H
          · replace H := (gm_ite H).2 c18
            by_cases c19 : v1 = (5 : Int32)
            · replace H := (gm_ite H).1 c19
              refine go_eqI c19 ?_
              refine go_tableIn (tgt := 159) dX12_readAsking_1 (by decide) (by decide) rfl (by decide) ?_
              refine go_mask [true, false, true] (loc' := [some (aA v0), none, some (aI v2)]) rfl ?_
              exact okj_X12_readAsking_159 v0 v2 h  H
            · replace H := (gm_ite H).2 c19
              by_cases c20 : v1 = (6 : Int32)
              · replace H := (gm_ite H).1 c20
                refine go_eqI c20 ?_
                refine go_tableIn (tgt := 129) dX12_readAsking_1 (by decide) (by decide) rfl (by decide) ?_
                refine go_mask [true, false, true] (loc' := [some (aA v0), none, some (aI v2)]) rfl ?_
                exact okj_X12_readAsking_129 v0 v2 h  H
              · replace H := (gm_ite H).2 c20
                by_cases c21 : v1 = (7 : Int32)
                · replace H := (gm_ite H).1 c21
                  refine go_eqI c21 ?_
                  refine go_tableIn (tgt := 129) dX12_readAsking_1 (by decide) (by decide) rfl (by decide) ?_
                  refine go_mask [true, false, true] (loc' := [some (aA v0), none, some (aI v2)]) rfl ?_
                  exact okj_X12_readAsking_129 v0 v2 h  H
                · replace H := (gm_ite H).2 c21
                  refine go_tableOut (tgt := 159) dX12_readAsking_1 (sw_out (fun i h1 h2 e => ?_)) (by decide) ?_
                  · have h3 : i = 0 ∨ i = 1 ∨ i = 2 ∨ i = 3 ∨ i = 4 ∨ i = 5 ∨ i = 6 ∨ i = 7 := by omega
                    rcases h3 with rfl | rfl | rfl | rfl | rfl | rfl | rfl | rfl
                    · exact sw_ne c1 (by decide) e
                    · exact sw_ne c5 (by decide) e
                    · exact sw_ne c12 (by decide) e
                    · exact sw_ne c17 (by decide) e
                    · exact sw_ne c18 (by decide) e
                    · exact sw_ne c19 (by decide) e
                    · exact sw_ne c20 (by decide) e
                    · exact sw_ne c21 (by decide) e
                  · skip
                    refine go_mask [true, false, true] (loc' := [some (aA v0), none, some (aI v2)]) rfl ?_
                    exact okj_X12_readAsking_159 v0 v2 h  H
/-! X12_askingLine -/
def j_X12_askingLine_151 (v0 : Nat) (v4 : Int32) (v5 : Int32) (v6 : Int32) (s0 : Nat) (s1 : Int32) (s2 : Int32) (h : Hp) (K158 : Hp → Option (Int32 × Hp)) (k : Int32 → Hp → Option (Int32 × Hp)) : Option (Int32 × Hp) :=
  (asI h s0 s1 s2).bind fun hh1 => k (v6 + (1 : Int32)) hh1
set_option maxRecDepth 20000 in
theorem okj_X12_askingLine_151 {r : (Int32 × Hp)} (v0 : Nat) (v4 : Int32) (v5 : Int32) (v6 : Int32) (s0 : Nat) (s1 : Int32) (s2 : Int32) (h : Hp) (K158 : Hp → Option (Int32 × Hp)) (k : Int32 → Hp → Option (Int32 × Hp)) (HK158 : ∀   (hq : Hp), K158 hq = some r → Go M_X12_askingLine (some (aI r.1), r.2) 158 [some (aA v0), none, none, none, none, some (aI v5), none] [] hq) (Hk : ∀ (v6q : Int32) (hq : Hp), k v6q hq = some r → Go M_X12_askingLine (some (aI r.1), r.2) 73 [some (aA v0), none, none, none, some (aI v4), some (aI v5), some (aI v6q)] [] hq) (H : j_X12_askingLine_151 v0 v4 v5 v6 s0 s1 s2 h K158 k = some r) : Go M_X12_askingLine (some (aI r.1), r.2) 151 [some (aA v0), none, none, none, some (aI v4), some (aI v5), some (aI v6)] [aI s2, aI s1, aA s0] h := by
  unfold j_X12_askingLine_151 at H
  refine gm_iast dX12_askingLine_151 H (fun hh1 H => ?_)
  refine go_iinc (v := (v6 + (1 : Int32))) (loc2 := [some (aA v0), none, none, none, some (aI v4), some (aI v5), some (aI (v6 + (1 : Int32)))]) dX12_askingLine_152 rfl rfl (by decide) rfl ?_
  refine go_goto (tgt := 73) dX12_askingLine_155 (by decide) ?_
  exact Hk (v6 + (1 : Int32)) hh1 H
def b_X12_askingLine_73 (v0 : Nat) (v4 : Int32) (v5 : Int32) (K158 : Hp → Option (Int32 × Hp)) (k : Int32 → Hp → Option (Int32 × Hp)) (v6 : Int32) (h : Hp) : Option (Int32 × Hp) :=
  if (7 : Int32) ≤ v6 then K158 h else if (8 : Int32) ≤ v5 then K158 h else (gfR h v0 12 18).bind fun x1 => if ¬ v6 = 0 then (if (3 : Int32) ≤ v6 then ((gfI h v0 12 21).bind fun x2 => if x2 ≤ (v6 - (3 : Int32)) then j_X12_askingLine_151 v0 v4 v5 v6 x1 (((1 : Int32) + ((7 : Int32) * v5)) + v6) (0 : Int32) h K158 k else (gfR h v0 12 20).bind fun x3 => (alI h x3 (v6 - (3 : Int32))).bind fun x4 => j_X12_askingLine_151 v0 v4 v5 v6 x1 (((1 : Int32) + ((7 : Int32) * v5)) + v6) x4 h K158 k) else (gfR h v0 12 19).bind fun x5 => (alI h x5 v6).bind fun x6 => j_X12_askingLine_151 v0 v4 v5 v6 x1 (((1 : Int32) + ((7 : Int32) * v5)) + v6) x6 h K158 k) else j_X12_askingLine_151 v0 v4 v5 v6 x1 (((1 : Int32) + ((7 : Int32) * v5)) + v6) v4 h K158 k
set_option maxRecDepth 20000 in
theorem okb_X12_askingLine_73 {r : (Int32 × Hp)} (v0 : Nat) (v4 : Int32) (v5 : Int32) (K158 : Hp → Option (Int32 × Hp)) (k : Int32 → Hp → Option (Int32 × Hp)) (v6 : Int32) (h : Hp) (HK158 : ∀   (hq : Hp), K158 hq = some r → Go M_X12_askingLine (some (aI r.1), r.2) 158 [some (aA v0), none, none, none, none, some (aI v5), none] [] hq) (Hk : ∀ (v6q : Int32) (hq : Hp), k v6q hq = some r → Go M_X12_askingLine (some (aI r.1), r.2) 73 [some (aA v0), none, none, none, some (aI v4), some (aI v5), some (aI v6q)] [] hq) (H : b_X12_askingLine_73 v0 v4 v5 K158 k v6 h = some r) : Go M_X12_askingLine (some (aI r.1), r.2) 73 [some (aA v0), none, none, none, some (aI v4), some (aI v5), some (aI v6)] [] h := by
  unfold b_X12_askingLine_73 at H
  refine go_iload dX12_askingLine_73 rfl ?_
  refine go_bipush (v := (7 : Int32)) dX12_askingLine_75 rfl ?_
  refine go_icmp_ge (tgt := 158) dX12_askingLine_77 (by decide) (fun c1 => ?_) (fun c1 => ?_)
  · replace H := (gm_ite H).1 c1
    refine go_mask [true, false, false, false, false, true, false] (loc' := [some (aA v0), none, none, none, none, some (aI v5), none]) rfl ?_
    exact HK158 h H
  · replace H := (gm_ite H).2 c1
    refine go_iload dX12_askingLine_80 rfl ?_
    refine go_bipush (v := (8 : Int32)) dX12_askingLine_82 rfl ?_
    refine go_icmp_ge (tgt := 158) dX12_askingLine_84 (by decide) (fun c2 => ?_) (fun c2 => ?_)
    · replace H := (gm_ite H).1 c2
      refine go_mask [true, false, false, false, false, true, false] (loc' := [some (aA v0), none, none, none, none, some (aI v5), none]) rfl ?_
      exact HK158 h H
    · replace H := (gm_ite H).2 c2
      refine go_aloadn dX12_askingLine_87 rfl ?_
      refine gm_getR fd_X12_35 dX12_askingLine_88 H (fun x1 H => ?_)
      refine go_iconst (v := (1 : Int32)) dX12_askingLine_91 rfl ?_
      refine go_bipush (v := (7 : Int32)) dX12_askingLine_92 rfl ?_
      refine go_iload dX12_askingLine_94 rfl ?_
      refine go_imul dX12_askingLine_96 ?_
      refine go_iadd dX12_askingLine_97 ?_
      refine go_iload dX12_askingLine_98 rfl ?_
      refine go_iadd dX12_askingLine_100 ?_
      refine go_iload dX12_askingLine_101 rfl ?_
      refine go_if_ne (tgt := 111) dX12_askingLine_103 (by decide) (fun c3 => ?_) (fun c3 => ?_)
      · replace H := (gm_ite H).1 c3
        refine go_iload dX12_askingLine_111 rfl ?_
        refine go_iconst (v := (3 : Int32)) dX12_askingLine_113 rfl ?_
        refine go_icmp_ge (tgt := 127) dX12_askingLine_114 (by decide) (fun c4 => ?_) (fun c4 => ?_)
        · replace H := (gm_ite H).1 c4
          refine go_iload dX12_askingLine_127 rfl ?_
          refine go_iconst (v := (3 : Int32)) dX12_askingLine_129 rfl ?_
          refine go_isub dX12_askingLine_130 ?_
          refine go_aloadn dX12_askingLine_131 rfl ?_
          refine gm_getI fd_X12_129 dX12_askingLine_132 H (fun x2 H => ?_)
          refine go_icmp_ge (tgt := 150) dX12_askingLine_135 (by decide) (fun c5 => ?_) (fun c5 => ?_)
          · replace H := (gm_ite H).1 c5
            refine go_iconst (v := (0 : Int32)) dX12_askingLine_150 rfl ?_
            exact okj_X12_askingLine_151 v0 v4 v5 v6 x1 (((1 : Int32) + ((7 : Int32) * v5)) + v6) (0 : Int32) h K158 k HK158 Hk H
          · replace H := (gm_ite H).2 c5
            refine go_aloadn dX12_askingLine_138 rfl ?_
            refine gm_getR fd_X12_41 dX12_askingLine_139 H (fun x3 H => ?_)
            refine go_iload dX12_askingLine_142 rfl ?_
            refine go_iconst (v := (3 : Int32)) dX12_askingLine_144 rfl ?_
            refine go_isub dX12_askingLine_145 ?_
            refine gm_iald dX12_askingLine_146 H (fun x4 H => ?_)
            refine go_goto (tgt := 151) dX12_askingLine_147 (by decide) ?_
            exact okj_X12_askingLine_151 v0 v4 v5 v6 x1 (((1 : Int32) + ((7 : Int32) * v5)) + v6) x4 h K158 k HK158 Hk H
        · replace H := (gm_ite H).2 c4
          refine go_aloadn dX12_askingLine_117 rfl ?_
          refine gm_getR fd_X12_38 dX12_askingLine_118 H (fun x5 H => ?_)
          refine go_iload dX12_askingLine_121 rfl ?_
          refine gm_iald dX12_askingLine_123 H (fun x6 H => ?_)
          refine go_goto (tgt := 151) dX12_askingLine_124 (by decide) ?_
          exact okj_X12_askingLine_151 v0 v4 v5 v6 x1 (((1 : Int32) + ((7 : Int32) * v5)) + v6) x6 h K158 k HK158 Hk H
      · replace H := (gm_ite H).2 c3
        refine go_iload dX12_askingLine_106 rfl ?_
        refine go_goto (tgt := 151) dX12_askingLine_108 (by decide) ?_
        exact okj_X12_askingLine_151 v0 v4 v5 v6 x1 (((1 : Int32) + ((7 : Int32) * v5)) + v6) v4 h K158 k HK158 Hk H
def l_X12_askingLine_73 (v0 : Nat) (v4 : Int32) (v5 : Int32) (K158 : Hp → Option (Int32 × Hp)) (v6 : Int32) (h : Hp) : Option (Int32 × Hp) := loopK FUEL (fun (k : Int32 × Hp → Option (Int32 × Hp)) (s : Int32 × Hp) => b_X12_askingLine_73 v0 v4 v5 K158 (fun v6q hq => k (v6q, hq)) s.1 s.2) (v6, h)
theorem okl_X12_askingLine_73 {r : (Int32 × Hp)} (v0 : Nat) (v4 : Int32) (v5 : Int32) (K158 : Hp → Option (Int32 × Hp)) (v6 : Int32) (h : Hp) (HK158 : ∀   (hq : Hp), K158 hq = some r → Go M_X12_askingLine (some (aI r.1), r.2) 158 [some (aA v0), none, none, none, none, some (aI v5), none] [] hq) (H : l_X12_askingLine_73 v0 v4 v5 K158 v6 h = some r) : Go M_X12_askingLine (some (aI r.1), r.2) 73 [some (aA v0), none, none, none, some (aI v4), some (aI v5), some (aI v6)] [] h := by
  unfold l_X12_askingLine_73 at H
  exact go_loop (σ := Int32 × Hp) (body := (fun (k : Int32 × Hp → Option (Int32 × Hp)) (s : Int32 × Hp) => b_X12_askingLine_73 v0 v4 v5 K158 (fun v6q hq => k (v6q, hq)) s.1 s.2)) (fun s => [some (aA v0), none, none, none, some (aI v4), some (aI v5), some (aI s.1)]) (fun s => s.2) (fun k s Hk H => okb_X12_askingLine_73 v0 v4 v5 K158 (fun v6q hq => k (v6q, hq)) s.1 s.2 HK158 (fun v6q hq H => Hk (v6q, hq) H) H) FUEL (v6, h) H
def j_X12_askingLine_158 (v0 : Nat) (v5 : Int32)  (h : Hp) : Option (Int32 × Hp) :=
  (gfR h v0 12 18).bind fun x1 => (m_X12_lesser (8 : Int32) (v5 + (1 : Int32)) h).bind fun x2 => (asI h x1 (0 : Int32) x2).bind fun hh1 => some ((1 : Int32), hh1)
set_option maxRecDepth 20000 in
theorem okj_X12_askingLine_158 {r : (Int32 × Hp)} (v0 : Nat) (v5 : Int32)  (h : Hp) (H : j_X12_askingLine_158 v0 v5 h = some r) : Go M_X12_askingLine (some (aI r.1), r.2) 158 [some (aA v0), none, none, none, none, some (aI v5), none] [] h := by
  unfold j_X12_askingLine_158 at H
  refine go_aloadn dX12_askingLine_158 rfl ?_
  refine gm_getR fd_X12_35 dX12_askingLine_159 H (fun x1 H => ?_)
  refine go_iconst (v := (0 : Int32)) dX12_askingLine_162 rfl ?_
  refine go_bipush (v := (8 : Int32)) dX12_askingLine_163 rfl ?_
  refine go_iload dX12_askingLine_165 rfl ?_
  refine go_iconst (v := (1 : Int32)) dX12_askingLine_167 rfl ?_
  refine go_iadd dX12_askingLine_168 ?_
  obtain ⟨x2, ex2, H⟩ := bind_some H
  refine go_callS (vs := [aI (8 : Int32), aI (v5 + (1 : Int32))]) (stk := [aI (0 : Int32), aA x1]) (o1 := (some (aI x2), h)) mk_X12_lesser ss_X12_askingLine_150 dX12_askingLine_169 rfl rfl (Nat.le_of_ble_eq_true rfl) (Nat.le_of_ble_eq_true rfl) (ok_X12_lesser ex2) (show Go M_X12_askingLine (some (aI r.1), r.2) 172 [some (aA v0), none, none, none, none, some (aI v5), none] [aI x2, aI (0 : Int32), aA x1] h from ?_)
  refine gm_iast dX12_askingLine_172 H (fun hh1 H => ?_)
  refine go_iconst (v := (1 : Int32)) dX12_askingLine_173 rfl ?_
  obtain rfl := Option.some.inj H
  exact go_ireturn (x := (1 : Int32)) dX12_askingLine_174 (tyI_bool rfl (by decide))
def j_X12_askingLine_39 (v0 : Nat) (v4 : Int32) (v5 : Int32)  (h : Hp) : Option (Int32 × Hp) :=
  (rc h v0 12 (m_X12_token v0 h)).bind fun x1 => (gfR x1 v0 12 19).bind fun x2 => (asI x1 x2 (1 : Int32) (-1 : Int32)).bind fun hh1 => (gfR hh1 v0 12 19).bind fun x3 => (asI hh1 x3 (2 : Int32) (-1 : Int32)).bind fun hh2 => (rc hh2 v0 12 (m_X12_readAsking v0 v4 v5 hh2)).bind fun x4 => if ¬ x4.1 = 0 then (l_X12_askingLine_73 v0 v4 v5 (fun hz5 => j_X12_askingLine_158 v0 v5 hz5) (0 : Int32) x4.2) else some ((0 : Int32), x4.2)
set_option maxRecDepth 20000 in
theorem okj_X12_askingLine_39 {r : (Int32 × Hp)} (v0 : Nat) (v4 : Int32) (v5 : Int32)  (h : Hp) (H : j_X12_askingLine_39 v0 v4 v5 h = some r) : Go M_X12_askingLine (some (aI r.1), r.2) 39 [some (aA v0), none, none, none, some (aI v4), some (aI v5), none] [] h := by
  unfold j_X12_askingLine_39 at H
  refine go_aloadn dX12_askingLine_39 rfl ?_
  obtain ⟨c1, x1, ex1, H⟩ := gm_rc H
  refine go_callV (vs := []) (stk := []) (o1 := (none, x1)) mk_X12_token sv_X12_askingLine_124 cl_X12 rfl dX12_askingLine_40 c1 rfl rfl (Nat.le_of_ble_eq_true rfl) (Nat.le_of_ble_eq_true rfl) (ok_X12_token ex1) (show Go M_X12_askingLine (some (aI r.1), r.2) 43 [some (aA v0), none, none, none, some (aI v4), some (aI v5), none] [] x1 from ?_)
  refine go_aloadn dX12_askingLine_43 rfl ?_
  refine gm_getR fd_X12_38 dX12_askingLine_44 H (fun x2 H => ?_)
  refine go_iconst (v := (1 : Int32)) dX12_askingLine_47 rfl ?_
  refine go_iconst (v := (-1 : Int32)) dX12_askingLine_48 rfl ?_
  refine gm_iast dX12_askingLine_49 H (fun hh1 H => ?_)
  refine go_aloadn dX12_askingLine_50 rfl ?_
  refine gm_getR fd_X12_38 dX12_askingLine_51 H (fun x3 H => ?_)
  refine go_iconst (v := (2 : Int32)) dX12_askingLine_54 rfl ?_
  refine go_iconst (v := (-1 : Int32)) dX12_askingLine_55 rfl ?_
  refine gm_iast dX12_askingLine_56 H (fun hh2 H => ?_)
  refine go_aloadn dX12_askingLine_57 rfl ?_
  refine go_iload dX12_askingLine_58 rfl ?_
  refine go_iload dX12_askingLine_60 rfl ?_
  obtain ⟨c2, x4, ex4, H⟩ := gm_rc H
  refine go_callV (vs := [aI v4, aI v5]) (stk := []) (o1 := (some (aI x4.1), x4.2)) mk_X12_readAsking sv_X12_askingLine_223 cl_X12 rfl dX12_askingLine_62 c2 rfl rfl (Nat.le_of_ble_eq_true rfl) (Nat.le_of_ble_eq_true rfl) (ok_X12_readAsking ex4) (show Go M_X12_askingLine (some (aI r.1), r.2) 65 [some (aA v0), none, none, none, some (aI v4), some (aI v5), none] [aI x4.1] x4.2 from ?_)
  refine go_if_ne (tgt := 70) dX12_askingLine_65 (by decide) (fun c3 => ?_) (fun c3 => ?_)
  · replace H := (gm_ite H).1 c3
    refine go_iconst (v := (0 : Int32)) dX12_askingLine_70 rfl ?_
    refine go_istore (loc2 := [some (aA v0), none, none, none, some (aI v4), some (aI v5), some (aI (0 : Int32))]) dX12_askingLine_71 (by decide) rfl ?_
    refine okl_X12_askingLine_73 v0 v4 v5 (fun hz5 => j_X12_askingLine_158 v0 v5 hz5) (0 : Int32) x4.2 ?_ H
    · intro hz5 H
      exact okj_X12_askingLine_158 v0 v5 hz5  H
  · replace H := (gm_ite H).2 c3
    refine go_iconst (v := (0 : Int32)) dX12_askingLine_68 rfl ?_
    obtain rfl := Option.some.inj H
    exact go_ireturn (x := (0 : Int32)) dX12_askingLine_69 (tyI_bool rfl (by decide))
def m_X12_askingLine (v0 : Nat) (v1 : Int64) (v3 : Int32) (h : Hp) : Option (Int32 × Hp) :=
  (rc h v0 12 (m_X12_askingBy v0 v1 h)).bind fun x1 => if ¬ x1 = (-1 : Int32) then ((gfR h v0 12 18).bind fun x2 => (alI h x2 (0 : Int32)).bind fun x3 => if ¬ x3 = (8 : Int32) then j_X12_askingLine_39 v0 x1 x3 h else (rc h v0 12 (m_X12_addsFault v0 (3 : Int32) v3 h)).bind fun x4 => j_X12_askingLine_39 v0 x1 x3 x4) else (rc h v0 12 (m_X12_fails v0 h)).bind fun x5 => (zb x5.1).bind fun x6 => some (x6, x5.2)
set_option maxRecDepth 20000 in
theorem ok_X12_askingLine {r : (Int32 × Hp)} {v0 : Nat} {v1 : Int64} {v3 : Int32} {h : Hp} (H : m_X12_askingLine v0 v1 v3 h = some r) : Ev M_X12_askingLine [aA v0, aL v1, aI v3] h (some (aI r.1), r.2) := by
  show Go M_X12_askingLine (some (aI r.1), r.2) 0 [some (aA v0), some (aL v1), none, some (aI v3), none, none, none] [] h
  unfold m_X12_askingLine at H
  refine go_aloadn dX12_askingLine_0 rfl ?_
  refine go_lloadn dX12_askingLine_1 rfl ?_
  obtain ⟨c1, x1, ex1, H⟩ := gm_rc H
  refine go_callV (vs := [aL v1]) (stk := []) (o1 := (some (aI x1), h)) mk_X12_askingBy sv_X12_askingLine_220 cl_X12 rfl dX12_askingLine_2 c1 rfl rfl (Nat.le_of_ble_eq_true rfl) (Nat.le_of_ble_eq_true rfl) (ok_X12_askingBy ex1) (show Go M_X12_askingLine (some (aI r.1), r.2) 5 [some (aA v0), some (aL v1), none, some (aI v3), none, none, none] [aI x1] h from ?_)
  refine go_istore (loc2 := [some (aA v0), some (aL v1), none, some (aI v3), some (aI x1), none, none]) dX12_askingLine_5 (by decide) rfl ?_
  refine go_iload dX12_askingLine_7 rfl ?_
  refine go_iconst (v := (-1 : Int32)) dX12_askingLine_9 rfl ?_
  refine go_icmp_ne (tgt := 18) dX12_askingLine_10 (by decide) (fun c2 => ?_) (fun c2 => ?_)
  · replace H := (gm_ite H).1 c2
    refine go_aloadn dX12_askingLine_18 rfl ?_
    refine gm_getR fd_X12_35 dX12_askingLine_19 H (fun x2 H => ?_)
    refine go_iconst (v := (0 : Int32)) dX12_askingLine_22 rfl ?_
    refine gm_iald dX12_askingLine_23 H (fun x3 H => ?_)
    refine go_istore (loc2 := [some (aA v0), some (aL v1), none, some (aI v3), some (aI x1), some (aI x3), none]) dX12_askingLine_24 (by decide) rfl ?_
    refine go_iload dX12_askingLine_26 rfl ?_
    refine go_bipush (v := (8 : Int32)) dX12_askingLine_28 rfl ?_
    refine go_icmp_ne (tgt := 39) dX12_askingLine_30 (by decide) (fun c3 => ?_) (fun c3 => ?_)
    · replace H := (gm_ite H).1 c3
      refine go_mask [true, false, false, false, true, true, false] (loc' := [some (aA v0), none, none, none, some (aI x1), some (aI x3), none]) rfl ?_
      exact okj_X12_askingLine_39 v0 x1 x3 h  H
    · replace H := (gm_ite H).2 c3
      refine go_aloadn dX12_askingLine_33 rfl ?_
      refine go_iconst (v := (3 : Int32)) dX12_askingLine_34 rfl ?_
      refine go_iloadn dX12_askingLine_35 rfl ?_
      obtain ⟨c4, x4, ex4, H⟩ := gm_rc H
      refine go_callV (vs := [aI (3 : Int32), aI v3]) (stk := []) (o1 := (none, x4)) mk_X12_addsFault sv_X12_askingLine_116 cl_X12 rfl dX12_askingLine_36 c4 rfl rfl (Nat.le_of_ble_eq_true rfl) (Nat.le_of_ble_eq_true rfl) (ok_X12_addsFault ex4) (show Go M_X12_askingLine (some (aI r.1), r.2) 39 [some (aA v0), some (aL v1), none, some (aI v3), some (aI x1), some (aI x3), none] [] x4 from ?_)
      refine go_mask [true, false, false, false, true, true, false] (loc' := [some (aA v0), none, none, none, some (aI x1), some (aI x3), none]) rfl ?_
      exact okj_X12_askingLine_39 v0 x1 x3 x4  H
  · replace H := (gm_ite H).2 c2
    refine go_aloadn dX12_askingLine_13 rfl ?_
    obtain ⟨c5, x5, ex5, H⟩ := gm_rc H
    refine go_callV (vs := []) (stk := []) (o1 := (some (aI x5.1), x5.2)) mk_X12_fails sv_X12_askingLine_112 cl_X12 rfl dX12_askingLine_14 c5 rfl rfl (Nat.le_of_ble_eq_true rfl) (Nat.le_of_ble_eq_true rfl) (ok_X12_fails ex5) (show Go M_X12_askingLine (some (aI r.1), r.2) 17 [some (aA v0), some (aL v1), none, some (aI v3), some (aI x1), none, none] [aI x5.1] x5.2 from ?_)
    obtain ⟨hz, H⟩ := gm_zb H
    obtain rfl := Option.some.inj H
    exact go_ireturn (x := x5.1) dX12_askingLine_17 (tyI_bool rfl hz)
/-! X12_huntLine -/
def b_X12_huntLine_91 (v0 : Nat) (v4 : Int32) (K131 : Hp → Option (Int32 × Hp)) (k : Int32 → Hp → Option (Int32 × Hp)) (v5 : Int32) (h : Hp) : Option (Int32 × Hp) :=
  if (3 : Int32) ≤ v5 then K131 h else if (8 : Int32) ≤ v4 then K131 h else (gfR h v0 12 18).bind fun x1 => (gfR h v0 12 19).bind fun x2 => (alI h x2 v5).bind fun x3 => (asI h x1 (((1 : Int32) + ((3 : Int32) * v4)) + v5) x3).bind fun hh1 => k (v5 + (1 : Int32)) hh1
set_option maxRecDepth 20000 in
theorem okb_X12_huntLine_91 {r : (Int32 × Hp)} (v0 : Nat) (v4 : Int32) (K131 : Hp → Option (Int32 × Hp)) (k : Int32 → Hp → Option (Int32 × Hp)) (v5 : Int32) (h : Hp) (HK131 : ∀   (hq : Hp), K131 hq = some r → Go M_X12_huntLine (some (aI r.1), r.2) 131 [some (aA v0), none, none, none, some (aI v4), none] [] hq) (Hk : ∀ (v5q : Int32) (hq : Hp), k v5q hq = some r → Go M_X12_huntLine (some (aI r.1), r.2) 91 [some (aA v0), none, none, none, some (aI v4), some (aI v5q)] [] hq) (H : b_X12_huntLine_91 v0 v4 K131 k v5 h = some r) : Go M_X12_huntLine (some (aI r.1), r.2) 91 [some (aA v0), none, none, none, some (aI v4), some (aI v5)] [] h := by
  unfold b_X12_huntLine_91 at H
  refine go_iload dX12_huntLine_91 rfl ?_
  refine go_iconst (v := (3 : Int32)) dX12_huntLine_93 rfl ?_
  refine go_icmp_ge (tgt := 131) dX12_huntLine_94 (by decide) (fun c1 => ?_) (fun c1 => ?_)
  · replace H := (gm_ite H).1 c1
    refine go_mask [true, false, false, false, true, false] (loc' := [some (aA v0), none, none, none, some (aI v4), none]) rfl ?_
    exact HK131 h H
  · replace H := (gm_ite H).2 c1
    refine go_iload dX12_huntLine_97 rfl ?_
    refine go_bipush (v := (8 : Int32)) dX12_huntLine_99 rfl ?_
    refine go_icmp_ge (tgt := 131) dX12_huntLine_101 (by decide) (fun c2 => ?_) (fun c2 => ?_)
    · replace H := (gm_ite H).1 c2
      refine go_mask [true, false, false, false, true, false] (loc' := [some (aA v0), none, none, none, some (aI v4), none]) rfl ?_
      exact HK131 h H
    · replace H := (gm_ite H).2 c2
      refine go_aloadn dX12_huntLine_104 rfl ?_
      refine gm_getR fd_X12_35 dX12_huntLine_105 H (fun x1 H => ?_)
      refine go_iconst (v := (1 : Int32)) dX12_huntLine_108 rfl ?_
      refine go_iconst (v := (3 : Int32)) dX12_huntLine_109 rfl ?_
      refine go_iload dX12_huntLine_110 rfl ?_
      refine go_imul dX12_huntLine_112 ?_
      refine go_iadd dX12_huntLine_113 ?_
      refine go_iload dX12_huntLine_114 rfl ?_
      refine go_iadd dX12_huntLine_116 ?_
      refine go_aloadn dX12_huntLine_117 rfl ?_
      refine gm_getR fd_X12_38 dX12_huntLine_118 H (fun x2 H => ?_)
      refine go_iload dX12_huntLine_121 rfl ?_
      refine gm_iald dX12_huntLine_123 H (fun x3 H => ?_)
      refine gm_iast dX12_huntLine_124 H (fun hh1 H => ?_)
      refine go_iinc (v := (v5 + (1 : Int32))) (loc2 := [some (aA v0), none, none, none, some (aI v4), some (aI (v5 + (1 : Int32)))]) dX12_huntLine_125 rfl rfl (by decide) rfl ?_
      refine go_goto (tgt := 91) dX12_huntLine_128 (by decide) ?_
      exact Hk (v5 + (1 : Int32)) hh1 H
def l_X12_huntLine_91 (v0 : Nat) (v4 : Int32) (K131 : Hp → Option (Int32 × Hp)) (v5 : Int32) (h : Hp) : Option (Int32 × Hp) := loopK FUEL (fun (k : Int32 × Hp → Option (Int32 × Hp)) (s : Int32 × Hp) => b_X12_huntLine_91 v0 v4 K131 (fun v5q hq => k (v5q, hq)) s.1 s.2) (v5, h)
theorem okl_X12_huntLine_91 {r : (Int32 × Hp)} (v0 : Nat) (v4 : Int32) (K131 : Hp → Option (Int32 × Hp)) (v5 : Int32) (h : Hp) (HK131 : ∀   (hq : Hp), K131 hq = some r → Go M_X12_huntLine (some (aI r.1), r.2) 131 [some (aA v0), none, none, none, some (aI v4), none] [] hq) (H : l_X12_huntLine_91 v0 v4 K131 v5 h = some r) : Go M_X12_huntLine (some (aI r.1), r.2) 91 [some (aA v0), none, none, none, some (aI v4), some (aI v5)] [] h := by
  unfold l_X12_huntLine_91 at H
  exact go_loop (σ := Int32 × Hp) (body := (fun (k : Int32 × Hp → Option (Int32 × Hp)) (s : Int32 × Hp) => b_X12_huntLine_91 v0 v4 K131 (fun v5q hq => k (v5q, hq)) s.1 s.2)) (fun s => [some (aA v0), none, none, none, some (aI v4), some (aI s.1)]) (fun s => s.2) (fun k s Hk H => okb_X12_huntLine_91 v0 v4 K131 (fun v5q hq => k (v5q, hq)) s.1 s.2 HK131 (fun v5q hq H => Hk (v5q, hq) H) H) FUEL (v5, h) H
def j_X12_huntLine_131 (v0 : Nat) (v4 : Int32)  (h : Hp) : Option (Int32 × Hp) :=
  (gfR h v0 12 18).bind fun x1 => (m_X12_lesser (8 : Int32) (v4 + (1 : Int32)) h).bind fun x2 => (asI h x1 (0 : Int32) x2).bind fun hh1 => some ((1 : Int32), hh1)
set_option maxRecDepth 20000 in
theorem okj_X12_huntLine_131 {r : (Int32 × Hp)} (v0 : Nat) (v4 : Int32)  (h : Hp) (H : j_X12_huntLine_131 v0 v4 h = some r) : Go M_X12_huntLine (some (aI r.1), r.2) 131 [some (aA v0), none, none, none, some (aI v4), none] [] h := by
  unfold j_X12_huntLine_131 at H
  refine go_aloadn dX12_huntLine_131 rfl ?_
  refine gm_getR fd_X12_35 dX12_huntLine_132 H (fun x1 H => ?_)
  refine go_iconst (v := (0 : Int32)) dX12_huntLine_135 rfl ?_
  refine go_bipush (v := (8 : Int32)) dX12_huntLine_136 rfl ?_
  refine go_iload dX12_huntLine_138 rfl ?_
  refine go_iconst (v := (1 : Int32)) dX12_huntLine_140 rfl ?_
  refine go_iadd dX12_huntLine_141 ?_
  obtain ⟨x2, ex2, H⟩ := bind_some H
  refine go_callS (vs := [aI (8 : Int32), aI (v4 + (1 : Int32))]) (stk := [aI (0 : Int32), aA x1]) (o1 := (some (aI x2), h)) mk_X12_lesser ss_X12_huntLine_150 dX12_huntLine_142 rfl rfl (Nat.le_of_ble_eq_true rfl) (Nat.le_of_ble_eq_true rfl) (ok_X12_lesser ex2) (show Go M_X12_huntLine (some (aI r.1), r.2) 145 [some (aA v0), none, none, none, some (aI v4), none] [aI x2, aI (0 : Int32), aA x1] h from ?_)
  refine gm_iast dX12_huntLine_145 H (fun hh1 H => ?_)
  refine go_iconst (v := (1 : Int32)) dX12_huntLine_146 rfl ?_
  obtain rfl := Option.some.inj H
  exact go_ireturn (x := (1 : Int32)) dX12_huntLine_147 (tyI_bool rfl (by decide))
def j_X12_huntLine_87 (v0 : Nat) (v4 : Int32) (s0 : Nat) (s1 : Int32) (s2 : Int32) (h : Hp) : Option (Int32 × Hp) :=
  (asI h s0 s1 s2).bind fun hh1 => l_X12_huntLine_91 v0 v4 (fun hz1 => j_X12_huntLine_131 v0 v4 hz1) (0 : Int32) hh1
set_option maxRecDepth 20000 in
theorem okj_X12_huntLine_87 {r : (Int32 × Hp)} (v0 : Nat) (v4 : Int32) (s0 : Nat) (s1 : Int32) (s2 : Int32) (h : Hp) (H : j_X12_huntLine_87 v0 v4 s0 s1 s2 h = some r) : Go M_X12_huntLine (some (aI r.1), r.2) 87 [some (aA v0), none, none, none, some (aI v4), none] [aI s2, aI s1, aA s0] h := by
  unfold j_X12_huntLine_87 at H
  refine gm_iast dX12_huntLine_87 H (fun hh1 H => ?_)
  refine go_iconst (v := (0 : Int32)) dX12_huntLine_88 rfl ?_
  refine go_istore (loc2 := [some (aA v0), none, none, none, some (aI v4), some (aI (0 : Int32))]) dX12_huntLine_89 (by decide) rfl ?_
  refine okl_X12_huntLine_91 v0 v4 (fun hz1 => j_X12_huntLine_131 v0 v4 hz1) (0 : Int32) hh1 ?_ H
  · intro hz1 H
    exact okj_X12_huntLine_131 v0 v4 hz1  H
def j_X12_huntLine_42 (v0 : Nat) (v1 : Int64) (v4 : Int32)  (h : Hp) : Option (Int32 × Hp) :=
  (rc h v0 12 (m_X12_token v0 h)).bind fun x1 => (rc x1 v0 12 (m_X12_take v0 (1 : Int32) (0 : Int32) (3 : Int32) x1)).bind fun x2 => if x2.1 = 0 then (some ((0 : Int32), x2.2)) else (rc x2.2 v0 12 (m_X12_take v0 (2 : Int32) (0 : Int32) (9 : Int32) x2.2)).bind fun x3 => if ¬ x3.1 = 0 then ((gfR x3.2 v0 12 19).bind fun x4 => j_X12_huntLine_87 v0 v4 x4 (0 : Int32) (if ¬ (lg_cmp v1 (26990 : Int64)) = 0 then (0 : Int32) else (1 : Int32)) x3.2) else some ((0 : Int32), x3.2)
set_option maxRecDepth 20000 in
theorem okj_X12_huntLine_42 {r : (Int32 × Hp)} (v0 : Nat) (v1 : Int64) (v4 : Int32)  (h : Hp) (H : j_X12_huntLine_42 v0 v1 v4 h = some r) : Go M_X12_huntLine (some (aI r.1), r.2) 42 [some (aA v0), some (aL v1), none, none, some (aI v4), none] [] h := by
  unfold j_X12_huntLine_42 at H
  refine go_aloadn dX12_huntLine_42 rfl ?_
  obtain ⟨c1, x1, ex1, H⟩ := gm_rc H
  refine go_callV (vs := []) (stk := []) (o1 := (none, x1)) mk_X12_token sv_X12_huntLine_124 cl_X12 rfl dX12_huntLine_43 c1 rfl rfl (Nat.le_of_ble_eq_true rfl) (Nat.le_of_ble_eq_true rfl) (ok_X12_token ex1) (show Go M_X12_huntLine (some (aI r.1), r.2) 46 [some (aA v0), some (aL v1), none, none, some (aI v4), none] [] x1 from ?_)
  refine go_aloadn dX12_huntLine_46 rfl ?_
  refine go_iconst (v := (1 : Int32)) dX12_huntLine_47 rfl ?_
  refine go_iconst (v := (0 : Int32)) dX12_huntLine_48 rfl ?_
  refine go_iconst (v := (3 : Int32)) dX12_huntLine_49 rfl ?_
  obtain ⟨c2, x2, ex2, H⟩ := gm_rc H
  refine go_callV (vs := [aI (1 : Int32), aI (0 : Int32), aI (3 : Int32)]) (stk := []) (o1 := (some (aI x2.1), x2.2)) mk_X12_take sv_X12_huntLine_177 cl_X12 rfl dX12_huntLine_50 c2 rfl rfl (Nat.le_of_ble_eq_true rfl) (Nat.le_of_ble_eq_true rfl) (ok_X12_take ex2) (show Go M_X12_huntLine (some (aI r.1), r.2) 53 [some (aA v0), some (aL v1), none, none, some (aI v4), none] [aI x2.1] x2.2 from ?_)
  refine go_if_eq (tgt := 67) dX12_huntLine_53 (by decide) (fun c3 => ?_) (fun c3 => ?_)
  · replace H := (gm_ite H).1 c3
    refine go_iconst (v := (0 : Int32)) dX12_huntLine_67 rfl ?_
    obtain rfl := Option.some.inj H
    exact go_ireturn (x := (0 : Int32)) dX12_huntLine_68 (tyI_bool rfl (by decide))
  · replace H := (gm_ite H).2 c3
    refine go_aloadn dX12_huntLine_56 rfl ?_
    refine go_iconst (v := (2 : Int32)) dX12_huntLine_57 rfl ?_
    refine go_iconst (v := (0 : Int32)) dX12_huntLine_58 rfl ?_
    refine go_bipush (v := (9 : Int32)) dX12_huntLine_59 rfl ?_
    obtain ⟨c4, x3, ex3, H⟩ := gm_rc H
    refine go_callV (vs := [aI (2 : Int32), aI (0 : Int32), aI (9 : Int32)]) (stk := []) (o1 := (some (aI x3.1), x3.2)) mk_X12_take sv_X12_huntLine_177 cl_X12 rfl dX12_huntLine_61 c4 rfl rfl (Nat.le_of_ble_eq_true rfl) (Nat.le_of_ble_eq_true rfl) (ok_X12_take ex3) (show Go M_X12_huntLine (some (aI r.1), r.2) 64 [some (aA v0), some (aL v1), none, none, some (aI v4), none] [aI x3.1] x3.2 from ?_)
    refine go_if_ne (tgt := 69) dX12_huntLine_64 (by decide) (fun c5 => ?_) (fun c5 => ?_)
    · replace H := (gm_ite H).1 c5
      refine go_aloadn dX12_huntLine_69 rfl ?_
      refine gm_getR fd_X12_38 dX12_huntLine_70 H (fun x4 H => ?_)
      refine go_iconst (v := (0 : Int32)) dX12_huntLine_73 rfl ?_
      refine go_lloadn dX12_huntLine_74 rfl ?_
      refine go_ldc2 (v := (26990 : Int64)) tw1636 dX12_huntLine_75 ?_
      refine go_lcmp dX12_huntLine_78 ?_
      refine go_if_ne (tgt := 86) dX12_huntLine_79 (by decide) (fun c6 => ?_) (fun c6 => ?_)
      · rw [if_pos c6] at H
        refine go_iconst (v := (0 : Int32)) dX12_huntLine_86 rfl ?_
        refine go_mask [true, false, false, false, true, false] (loc' := [some (aA v0), none, none, none, some (aI v4), none]) rfl ?_
        exact okj_X12_huntLine_87 v0 v4 x4 (0 : Int32) (0 : Int32) x3.2  H
      · rw [if_neg c6] at H
        refine go_iconst (v := (1 : Int32)) dX12_huntLine_82 rfl ?_
        refine go_goto (tgt := 87) dX12_huntLine_83 (by decide) ?_
        refine go_mask [true, false, false, false, true, false] (loc' := [some (aA v0), none, none, none, some (aI v4), none]) rfl ?_
        exact okj_X12_huntLine_87 v0 v4 x4 (0 : Int32) (1 : Int32) x3.2  H
    · replace H := (gm_ite H).2 c5
      refine go_iconst (v := (0 : Int32)) dX12_huntLine_67 rfl ?_
      obtain rfl := Option.some.inj H
      exact go_ireturn (x := (0 : Int32)) dX12_huntLine_68 (tyI_bool rfl (by decide))
def j_X12_huntLine_21 (v0 : Nat) (v1 : Int64) (v3 : Int32)  (h : Hp) : Option (Int32 × Hp) :=
  (gfR h v0 12 18).bind fun x1 => (alI h x1 (0 : Int32)).bind fun x2 => if ¬ x2 = (8 : Int32) then j_X12_huntLine_42 v0 v1 x2 h else (rc h v0 12 (m_X12_addsFault v0 (3 : Int32) v3 h)).bind fun x3 => j_X12_huntLine_42 v0 v1 x2 x3
set_option maxRecDepth 20000 in
theorem okj_X12_huntLine_21 {r : (Int32 × Hp)} (v0 : Nat) (v1 : Int64) (v3 : Int32)  (h : Hp) (H : j_X12_huntLine_21 v0 v1 v3 h = some r) : Go M_X12_huntLine (some (aI r.1), r.2) 21 [some (aA v0), some (aL v1), none, some (aI v3), none, none] [] h := by
  unfold j_X12_huntLine_21 at H
  refine go_aloadn dX12_huntLine_21 rfl ?_
  refine gm_getR fd_X12_35 dX12_huntLine_22 H (fun x1 H => ?_)
  refine go_iconst (v := (0 : Int32)) dX12_huntLine_25 rfl ?_
  refine gm_iald dX12_huntLine_26 H (fun x2 H => ?_)
  refine go_istore (loc2 := [some (aA v0), some (aL v1), none, some (aI v3), some (aI x2), none]) dX12_huntLine_27 (by decide) rfl ?_
  refine go_iload dX12_huntLine_29 rfl ?_
  refine go_bipush (v := (8 : Int32)) dX12_huntLine_31 rfl ?_
  refine go_icmp_ne (tgt := 42) dX12_huntLine_33 (by decide) (fun c1 => ?_) (fun c1 => ?_)
  · replace H := (gm_ite H).1 c1
    refine go_mask [true, true, false, false, true, false] (loc' := [some (aA v0), some (aL v1), none, none, some (aI x2), none]) rfl ?_
    exact okj_X12_huntLine_42 v0 v1 x2 h  H
  · replace H := (gm_ite H).2 c1
    refine go_aloadn dX12_huntLine_36 rfl ?_
    refine go_iconst (v := (3 : Int32)) dX12_huntLine_37 rfl ?_
    refine go_iloadn dX12_huntLine_38 rfl ?_
    obtain ⟨c2, x3, ex3, H⟩ := gm_rc H
    refine go_callV (vs := [aI (3 : Int32), aI v3]) (stk := []) (o1 := (none, x3)) mk_X12_addsFault sv_X12_huntLine_116 cl_X12 rfl dX12_huntLine_39 c2 rfl rfl (Nat.le_of_ble_eq_true rfl) (Nat.le_of_ble_eq_true rfl) (ok_X12_addsFault ex3) (show Go M_X12_huntLine (some (aI r.1), r.2) 42 [some (aA v0), some (aL v1), none, some (aI v3), some (aI x2), none] [] x3 from ?_)
    refine go_mask [true, true, false, false, true, false] (loc' := [some (aA v0), some (aL v1), none, none, some (aI x2), none]) rfl ?_
    exact okj_X12_huntLine_42 v0 v1 x2 x3  H
def m_X12_huntLine (v0 : Nat) (v1 : Int64) (v3 : Int32) (h : Hp) : Option (Int32 × Hp) :=
  if (lg_cmp v1 (26990 : Int64)) = 0 then j_X12_huntLine_21 v0 v1 v3 h else if (lg_cmp v1 (7304564 : Int64)) = 0 then j_X12_huntLine_21 v0 v1 v3 h else (rc h v0 12 (m_X12_fails v0 h)).bind fun x1 => (zb x1.1).bind fun x2 => some (x2, x1.2)
set_option maxRecDepth 20000 in
theorem ok_X12_huntLine {r : (Int32 × Hp)} {v0 : Nat} {v1 : Int64} {v3 : Int32} {h : Hp} (H : m_X12_huntLine v0 v1 v3 h = some r) : Ev M_X12_huntLine [aA v0, aL v1, aI v3] h (some (aI r.1), r.2) := by
  show Go M_X12_huntLine (some (aI r.1), r.2) 0 [some (aA v0), some (aL v1), none, some (aI v3), none, none] [] h
  unfold m_X12_huntLine at H
  refine go_lloadn dX12_huntLine_0 rfl ?_
  refine go_ldc2 (v := (26990 : Int64)) tw1636 dX12_huntLine_1 ?_
  refine go_lcmp dX12_huntLine_4 ?_
  refine go_if_eq (tgt := 21) dX12_huntLine_5 (by decide) (fun c1 => ?_) (fun c1 => ?_)
  · replace H := (gm_ite H).1 c1
    exact okj_X12_huntLine_21 v0 v1 v3 h  H
  · replace H := (gm_ite H).2 c1
    refine go_lloadn dX12_huntLine_8 rfl ?_
    refine go_ldc2 (v := (7304564 : Int64)) tw1637 dX12_huntLine_9 ?_
    refine go_lcmp dX12_huntLine_12 ?_
    refine go_if_eq (tgt := 21) dX12_huntLine_13 (by decide) (fun c2 => ?_) (fun c2 => ?_)
    · replace H := (gm_ite H).1 c2
      exact okj_X12_huntLine_21 v0 v1 v3 h  H
    · replace H := (gm_ite H).2 c2
      refine go_aloadn dX12_huntLine_16 rfl ?_
      obtain ⟨c3, x1, ex1, H⟩ := gm_rc H
      refine go_callV (vs := []) (stk := []) (o1 := (some (aI x1.1), x1.2)) mk_X12_fails sv_X12_huntLine_112 cl_X12 rfl dX12_huntLine_17 c3 rfl rfl (Nat.le_of_ble_eq_true rfl) (Nat.le_of_ble_eq_true rfl) (ok_X12_fails ex1) (show Go M_X12_huntLine (some (aI r.1), r.2) 20 [some (aA v0), some (aL v1), none, some (aI v3), none, none] [aI x1.1] x1.2 from ?_)
      obtain ⟨hz, H⟩ := gm_zb H
      obtain rfl := Option.some.inj H
      exact go_ireturn (x := x1.1) dX12_huntLine_20 (tyI_bool rfl hz)
/-! X12_allLines -/
def j_X12_allLines_123 (v0 : Nat) (v1 : Int32) (v2 : Int32)  (h : Hp) (K126 : Int32 → Hp → Option (Int32 × Hp)) (k : Int32 → Hp → Option (Int32 × Hp)) : Option (Int32 × Hp) :=
  k v2 h
set_option maxRecDepth 20000 in
theorem okj_X12_allLines_123 {r : (Int32 × Hp)} (v0 : Nat) (v1 : Int32) (v2 : Int32)  (h : Hp) (K126 : Int32 → Hp → Option (Int32 × Hp)) (k : Int32 → Hp → Option (Int32 × Hp)) (HK126 : ∀ (v2q : Int32)  (hq : Hp), K126 v2q hq = some r → Go M_X12_allLines (some (aI r.1), r.2) 126 [none, none, some (aI v2q), none, none, none] [] hq) (Hk : ∀ (v2q : Int32) (hq : Hp), k v2q hq = some r → Go M_X12_allLines (some (aI r.1), r.2) 7 [some (aA v0), some (aI v1), some (aI v2q), none, none, none] [] hq) (H : j_X12_allLines_123 v0 v1 v2 h K126 k = some r) : Go M_X12_allLines (some (aI r.1), r.2) 123 [some (aA v0), some (aI v1), some (aI v2), none, none, none] [] h := by
  unfold j_X12_allLines_123 at H
  refine go_goto (tgt := 7) dX12_allLines_123 (by decide) ?_
  exact Hk v2 h H
def j_X12_allLines_105 (v0 : Nat) (v1 : Int32) (v2 : Int32)  (h : Hp) (K126 : Int32 → Hp → Option (Int32 × Hp)) (k : Int32 → Hp → Option (Int32 × Hp)) : Option (Int32 × Hp) :=
  if v2 = 0 then j_X12_allLines_123 v0 v1 v2 h K126 k else (rc h v0 12 (m_X12_token v0 h)).bind fun x1 => (gfI x1 v0 12 23).bind fun x2 => (pfI x1 v0 12 23 (x2 + (1 : Int32))).bind fun hh1 => j_X12_allLines_123 v0 v1 v2 hh1 K126 k
set_option maxRecDepth 20000 in
theorem okj_X12_allLines_105 {r : (Int32 × Hp)} (v0 : Nat) (v1 : Int32) (v2 : Int32)  (h : Hp) (K126 : Int32 → Hp → Option (Int32 × Hp)) (k : Int32 → Hp → Option (Int32 × Hp)) (HK126 : ∀ (v2q : Int32)  (hq : Hp), K126 v2q hq = some r → Go M_X12_allLines (some (aI r.1), r.2) 126 [none, none, some (aI v2q), none, none, none] [] hq) (Hk : ∀ (v2q : Int32) (hq : Hp), k v2q hq = some r → Go M_X12_allLines (some (aI r.1), r.2) 7 [some (aA v0), some (aI v1), some (aI v2q), none, none, none] [] hq) (H : j_X12_allLines_105 v0 v1 v2 h K126 k = some r) : Go M_X12_allLines (some (aI r.1), r.2) 105 [some (aA v0), some (aI v1), some (aI v2), none, none, none] [] h := by
  unfold j_X12_allLines_105 at H
  refine go_iloadn dX12_allLines_105 rfl ?_
  refine go_if_eq (tgt := 123) dX12_allLines_106 (by decide) (fun c1 => ?_) (fun c1 => ?_)
  · replace H := (gm_ite H).1 c1
    exact okj_X12_allLines_123 v0 v1 v2 h K126 k HK126 Hk H
  · replace H := (gm_ite H).2 c1
    refine go_aloadn dX12_allLines_109 rfl ?_
    obtain ⟨c2, x1, ex1, H⟩ := gm_rc H
    refine go_callV (vs := []) (stk := []) (o1 := (none, x1)) mk_X12_token sv_X12_allLines_124 cl_X12 rfl dX12_allLines_110 c2 rfl rfl (Nat.le_of_ble_eq_true rfl) (Nat.le_of_ble_eq_true rfl) (ok_X12_token ex1) (show Go M_X12_allLines (some (aI r.1), r.2) 113 [some (aA v0), some (aI v1), some (aI v2), none, none, none] [] x1 from ?_)
    refine go_aloadn dX12_allLines_113 rfl ?_
    refine go_dupA dX12_allLines_114 ?_
    refine gm_getI fd_X12_143 dX12_allLines_115 H (fun x2 H => ?_)
    refine go_iconst (v := (1 : Int32)) dX12_allLines_118 rfl ?_
    refine go_iadd dX12_allLines_119 ?_
    refine gm_putI fd_X12_143 (Or.inl rfl) dX12_allLines_120 H (fun hh1 H => ?_)
    exact okj_X12_allLines_123 v0 v1 v2 hh1 K126 k HK126 Hk H
def j_X12_allLines_87 (v0 : Nat) (v1 : Int32) (s0 : Int32) (h : Hp) (K126 : Int32 → Hp → Option (Int32 × Hp)) (k : Int32 → Hp → Option (Int32 × Hp)) : Option (Int32 × Hp) :=
  if s0 = 0 then j_X12_allLines_105 v0 v1 s0 h K126 k else (gfI h v0 12 12).bind fun x1 => if x1 = (4 : Int32) then j_X12_allLines_105 v0 v1 s0 h K126 k else (rc h v0 12 (m_X12_fails v0 h)).bind fun x2 => j_X12_allLines_105 v0 v1 x2.1 x2.2 K126 k
set_option maxRecDepth 20000 in
theorem okj_X12_allLines_87 {r : (Int32 × Hp)} (v0 : Nat) (v1 : Int32) (s0 : Int32) (h : Hp) (K126 : Int32 → Hp → Option (Int32 × Hp)) (k : Int32 → Hp → Option (Int32 × Hp)) (HK126 : ∀ (v2q : Int32)  (hq : Hp), K126 v2q hq = some r → Go M_X12_allLines (some (aI r.1), r.2) 126 [none, none, some (aI v2q), none, none, none] [] hq) (Hk : ∀ (v2q : Int32) (hq : Hp), k v2q hq = some r → Go M_X12_allLines (some (aI r.1), r.2) 7 [some (aA v0), some (aI v1), some (aI v2q), none, none, none] [] hq) (H : j_X12_allLines_87 v0 v1 s0 h K126 k = some r) : Go M_X12_allLines (some (aI r.1), r.2) 87 [some (aA v0), some (aI v1), none, none, none, none] [aI s0] h := by
  unfold j_X12_allLines_87 at H
  refine go_istoren (loc2 := [some (aA v0), some (aI v1), some (aI s0), none, none, none]) dX12_allLines_87 rfl (by decide) rfl ?_
  refine go_iloadn dX12_allLines_88 rfl ?_
  refine go_if_eq (tgt := 105) dX12_allLines_89 (by decide) (fun c1 => ?_) (fun c1 => ?_)
  · replace H := (gm_ite H).1 c1
    exact okj_X12_allLines_105 v0 v1 s0 h K126 k HK126 Hk H
  · replace H := (gm_ite H).2 c1
    refine go_aloadn dX12_allLines_92 rfl ?_
    refine gm_getI fd_X12_97 dX12_allLines_93 H (fun x1 H => ?_)
    refine go_iconst (v := (4 : Int32)) dX12_allLines_96 rfl ?_
    refine go_icmp_eq (tgt := 105) dX12_allLines_97 (by decide) (fun c2 => ?_) (fun c2 => ?_)
    · replace H := (gm_ite H).1 c2
      exact okj_X12_allLines_105 v0 v1 s0 h K126 k HK126 Hk H
    · replace H := (gm_ite H).2 c2
      refine go_aloadn dX12_allLines_100 rfl ?_
      obtain ⟨c3, x2, ex2, H⟩ := gm_rc H
      refine go_callV (vs := []) (stk := []) (o1 := (some (aI x2.1), x2.2)) mk_X12_fails sv_X12_allLines_112 cl_X12 rfl dX12_allLines_101 c3 rfl rfl (Nat.le_of_ble_eq_true rfl) (Nat.le_of_ble_eq_true rfl) (ok_X12_fails ex2) (show Go M_X12_allLines (some (aI r.1), r.2) 104 [some (aA v0), some (aI v1), some (aI s0), none, none, none] [aI x2.1] x2.2 from ?_)
      refine go_istoren (loc2 := [some (aA v0), some (aI v1), some (aI x2.1), none, none, none]) dX12_allLines_104 rfl (by decide) rfl ?_
      exact okj_X12_allLines_105 v0 v1 x2.1 x2.2 K126 k HK126 Hk H
def j_X12_allLines_39 (v0 : Nat) (v1 : Int32) (v3 : Int32) (s0 : Int64) (h : Hp) (K126 : Int32 → Hp → Option (Int32 × Hp)) (k : Int32 → Hp → Option (Int32 × Hp)) : Option (Int32 × Hp) :=
  (pfI h v0 12 22 (1 : Int32)).bind fun hh1 => (pfI hh1 v0 12 21 (0 : Int32)).bind fun hh2 => if ¬ v1 = 0 then (if ¬ v1 = (1 : Int32) then ((rc hh2 v0 12 (m_X12_huntLine v0 s0 v3 hh2)).bind fun x1 => j_X12_allLines_87 v0 v1 x1.1 x1.2 K126 k) else (rc hh2 v0 12 (m_X12_askingLine v0 s0 v3 hh2)).bind fun x2 => j_X12_allLines_87 v0 v1 x2.1 x2.2 K126 k) else (rc hh2 v0 12 (m_X12_archiveLine v0 s0 v3 hh2)).bind fun x3 => j_X12_allLines_87 v0 v1 x3.1 x3.2 K126 k
set_option maxRecDepth 20000 in
theorem okj_X12_allLines_39 {r : (Int32 × Hp)} (v0 : Nat) (v1 : Int32) (v3 : Int32) (s0 : Int64) (h : Hp) (K126 : Int32 → Hp → Option (Int32 × Hp)) (k : Int32 → Hp → Option (Int32 × Hp)) (HK126 : ∀ (v2q : Int32)  (hq : Hp), K126 v2q hq = some r → Go M_X12_allLines (some (aI r.1), r.2) 126 [none, none, some (aI v2q), none, none, none] [] hq) (Hk : ∀ (v2q : Int32) (hq : Hp), k v2q hq = some r → Go M_X12_allLines (some (aI r.1), r.2) 7 [some (aA v0), some (aI v1), some (aI v2q), none, none, none] [] hq) (H : j_X12_allLines_39 v0 v1 v3 s0 h K126 k = some r) : Go M_X12_allLines (some (aI r.1), r.2) 39 [some (aA v0), some (aI v1), none, some (aI v3), none, none] [aL s0] h := by
  unfold j_X12_allLines_39 at H
  refine go_lstore (loc2 := [some (aA v0), some (aI v1), none, some (aI v3), some (aL s0), none]) dX12_allLines_39 (by decide) rfl ?_
  refine go_aloadn dX12_allLines_41 rfl ?_
  refine go_iconst (v := (1 : Int32)) dX12_allLines_42 rfl ?_
  refine gm_putZ fd_X12_120 (Or.inl rfl) (by decide) dX12_allLines_43 H (fun hh1 H => ?_)
  refine go_aloadn dX12_allLines_46 rfl ?_
  refine go_iconst (v := (0 : Int32)) dX12_allLines_47 rfl ?_
  refine gm_putI fd_X12_129 (Or.inl rfl) dX12_allLines_48 H (fun hh2 H => ?_)
  refine go_iloadn dX12_allLines_51 rfl ?_
  refine go_if_ne (tgt := 65) dX12_allLines_52 (by decide) (fun c1 => ?_) (fun c1 => ?_)
  · replace H := (gm_ite H).1 c1
    refine go_iloadn dX12_allLines_65 rfl ?_
    refine go_iconst (v := (1 : Int32)) dX12_allLines_66 rfl ?_
    refine go_icmp_ne (tgt := 80) dX12_allLines_67 (by decide) (fun c2 => ?_) (fun c2 => ?_)
    · replace H := (gm_ite H).1 c2
      refine go_aloadn dX12_allLines_80 rfl ?_
      refine go_lload dX12_allLines_81 rfl ?_
      refine go_iloadn dX12_allLines_83 rfl ?_
      obtain ⟨c3, x1, ex1, H⟩ := gm_rc H
      refine go_callV (vs := [aL s0, aI v3]) (stk := []) (o1 := (some (aI x1.1), x1.2)) mk_X12_huntLine sv_X12_allLines_237 cl_X12 rfl dX12_allLines_84 c3 rfl rfl (Nat.le_of_ble_eq_true rfl) (Nat.le_of_ble_eq_true rfl) (ok_X12_huntLine ex1) (show Go M_X12_allLines (some (aI r.1), r.2) 87 [some (aA v0), some (aI v1), none, some (aI v3), some (aL s0), none] [aI x1.1] x1.2 from ?_)
      refine go_mask [true, true, false, false, false, false] (loc' := [some (aA v0), some (aI v1), none, none, none, none]) rfl ?_
      exact okj_X12_allLines_87 v0 v1 x1.1 x1.2 K126 k HK126 Hk H
    · replace H := (gm_ite H).2 c2
      refine go_aloadn dX12_allLines_70 rfl ?_
      refine go_lload dX12_allLines_71 rfl ?_
      refine go_iloadn dX12_allLines_73 rfl ?_
      obtain ⟨c4, x2, ex2, H⟩ := gm_rc H
      refine go_callV (vs := [aL s0, aI v3]) (stk := []) (o1 := (some (aI x2.1), x2.2)) mk_X12_askingLine sv_X12_allLines_234 cl_X12 rfl dX12_allLines_74 c4 rfl rfl (Nat.le_of_ble_eq_true rfl) (Nat.le_of_ble_eq_true rfl) (ok_X12_askingLine ex2) (show Go M_X12_allLines (some (aI r.1), r.2) 77 [some (aA v0), some (aI v1), none, some (aI v3), some (aL s0), none] [aI x2.1] x2.2 from ?_)
      refine go_goto (tgt := 87) dX12_allLines_77 (by decide) ?_
      refine go_mask [true, true, false, false, false, false] (loc' := [some (aA v0), some (aI v1), none, none, none, none]) rfl ?_
      exact okj_X12_allLines_87 v0 v1 x2.1 x2.2 K126 k HK126 Hk H
  · replace H := (gm_ite H).2 c1
    refine go_aloadn dX12_allLines_55 rfl ?_
    refine go_lload dX12_allLines_56 rfl ?_
    refine go_iloadn dX12_allLines_58 rfl ?_
    obtain ⟨c5, x3, ex3, H⟩ := gm_rc H
    refine go_callV (vs := [aL s0, aI v3]) (stk := []) (o1 := (some (aI x3.1), x3.2)) mk_X12_archiveLine sv_X12_allLines_230 cl_X12 rfl dX12_allLines_59 c5 rfl rfl (Nat.le_of_ble_eq_true rfl) (Nat.le_of_ble_eq_true rfl) (ok_X12_archiveLine ex3) (show Go M_X12_allLines (some (aI r.1), r.2) 62 [some (aA v0), some (aI v1), none, some (aI v3), some (aL s0), none] [aI x3.1] x3.2 from ?_)
    refine go_goto (tgt := 87) dX12_allLines_62 (by decide) ?_
    refine go_mask [true, true, false, false, false, false] (loc' := [some (aA v0), some (aI v1), none, none, none, none]) rfl ?_
    exact okj_X12_allLines_87 v0 v1 x3.1 x3.2 K126 k HK126 Hk H
def b_X12_allLines_7 (v0 : Nat) (v1 : Int32) (K126 : Int32 → Hp → Option (Int32 × Hp)) (k : Int32 → Hp → Option (Int32 × Hp)) (v2 : Int32) (h : Hp) : Option (Int32 × Hp) :=
  if v2 = 0 then K126 v2 h else (gfI h v0 12 12).bind fun x1 => if x1 = 0 then K126 v2 h else (gfI h v0 12 11).bind fun x2 => (gfI h v0 12 12).bind fun x3 => if ¬ x3 = (2 : Int32) then (j_X12_allLines_39 v0 v1 x2 (0 : Int64) h K126 k) else (gfJ h v0 12 14).bind fun x4 => j_X12_allLines_39 v0 v1 x2 x4 h K126 k
set_option maxRecDepth 20000 in
theorem okb_X12_allLines_7 {r : (Int32 × Hp)} (v0 : Nat) (v1 : Int32) (K126 : Int32 → Hp → Option (Int32 × Hp)) (k : Int32 → Hp → Option (Int32 × Hp)) (v2 : Int32) (h : Hp) (HK126 : ∀ (v2q : Int32)  (hq : Hp), K126 v2q hq = some r → Go M_X12_allLines (some (aI r.1), r.2) 126 [none, none, some (aI v2q), none, none, none] [] hq) (Hk : ∀ (v2q : Int32) (hq : Hp), k v2q hq = some r → Go M_X12_allLines (some (aI r.1), r.2) 7 [some (aA v0), some (aI v1), some (aI v2q), none, none, none] [] hq) (H : b_X12_allLines_7 v0 v1 K126 k v2 h = some r) : Go M_X12_allLines (some (aI r.1), r.2) 7 [some (aA v0), some (aI v1), some (aI v2), none, none, none] [] h := by
  unfold b_X12_allLines_7 at H
  refine go_iloadn dX12_allLines_7 rfl ?_
  refine go_if_eq (tgt := 126) dX12_allLines_8 (by decide) (fun c1 => ?_) (fun c1 => ?_)
  · replace H := (gm_ite H).1 c1
    refine go_mask [false, false, true, false, false, false] (loc' := [none, none, some (aI v2), none, none, none]) rfl ?_
    exact HK126 v2 h H
  · replace H := (gm_ite H).2 c1
    refine go_aloadn dX12_allLines_11 rfl ?_
    refine gm_getI fd_X12_97 dX12_allLines_12 H (fun x1 H => ?_)
    refine go_if_eq (tgt := 126) dX12_allLines_15 (by decide) (fun c2 => ?_) (fun c2 => ?_)
    · replace H := (gm_ite H).1 c2
      refine go_mask [false, false, true, false, false, false] (loc' := [none, none, some (aI v2), none, none, none]) rfl ?_
      exact HK126 v2 h H
    · replace H := (gm_ite H).2 c2
      refine go_aloadn dX12_allLines_18 rfl ?_
      refine gm_getI fd_X12_90 dX12_allLines_19 H (fun x2 H => ?_)
      refine go_istoren (loc2 := [some (aA v0), some (aI v1), some (aI v2), some (aI x2), none, none]) dX12_allLines_22 rfl (by decide) rfl ?_
      refine go_aloadn dX12_allLines_23 rfl ?_
      refine gm_getI fd_X12_97 dX12_allLines_24 H (fun x3 H => ?_)
      refine go_iconst (v := (2 : Int32)) dX12_allLines_27 rfl ?_
      refine go_icmp_ne (tgt := 38) dX12_allLines_28 (by decide) (fun c3 => ?_) (fun c3 => ?_)
      · replace H := (gm_ite H).1 c3
        refine go_lconst (v := (0 : Int64)) dX12_allLines_38 rfl ?_
        refine go_mask [true, true, false, true, false, false] (loc' := [some (aA v0), some (aI v1), none, some (aI x2), none, none]) rfl ?_
        exact okj_X12_allLines_39 v0 v1 x2 (0 : Int64) h K126 k HK126 Hk H
      · replace H := (gm_ite H).2 c3
        refine go_aloadn dX12_allLines_31 rfl ?_
        refine gm_getJ fd_X12_93 dX12_allLines_32 H (fun x4 H => ?_)
        refine go_goto (tgt := 39) dX12_allLines_35 (by decide) ?_
        refine go_mask [true, true, false, true, false, false] (loc' := [some (aA v0), some (aI v1), none, some (aI x2), none, none]) rfl ?_
        exact okj_X12_allLines_39 v0 v1 x2 x4 h K126 k HK126 Hk H
def l_X12_allLines_7 (v0 : Nat) (v1 : Int32) (K126 : Int32 → Hp → Option (Int32 × Hp)) (v2 : Int32) (h : Hp) : Option (Int32 × Hp) := loopK FUEL (fun (k : Int32 × Hp → Option (Int32 × Hp)) (s : Int32 × Hp) => b_X12_allLines_7 v0 v1 K126 (fun v2q hq => k (v2q, hq)) s.1 s.2) (v2, h)
theorem okl_X12_allLines_7 {r : (Int32 × Hp)} (v0 : Nat) (v1 : Int32) (K126 : Int32 → Hp → Option (Int32 × Hp)) (v2 : Int32) (h : Hp) (HK126 : ∀ (v2q : Int32)  (hq : Hp), K126 v2q hq = some r → Go M_X12_allLines (some (aI r.1), r.2) 126 [none, none, some (aI v2q), none, none, none] [] hq) (H : l_X12_allLines_7 v0 v1 K126 v2 h = some r) : Go M_X12_allLines (some (aI r.1), r.2) 7 [some (aA v0), some (aI v1), some (aI v2), none, none, none] [] h := by
  unfold l_X12_allLines_7 at H
  exact go_loop (σ := Int32 × Hp) (body := (fun (k : Int32 × Hp → Option (Int32 × Hp)) (s : Int32 × Hp) => b_X12_allLines_7 v0 v1 K126 (fun v2q hq => k (v2q, hq)) s.1 s.2)) (fun s => [some (aA v0), some (aI v1), some (aI s.1), none, none, none]) (fun s => s.2) (fun k s Hk H => okb_X12_allLines_7 v0 v1 K126 (fun v2q hq => k (v2q, hq)) s.1 s.2 HK126 (fun v2q hq H => Hk (v2q, hq) H) H) FUEL (v2, h) H
def j_X12_allLines_126 (v2 : Int32)  (h : Hp) : Option (Int32 × Hp) :=
  (zb v2).bind fun x1 => some (x1, h)
set_option maxRecDepth 20000 in
theorem okj_X12_allLines_126 {r : (Int32 × Hp)} (v2 : Int32)  (h : Hp) (H : j_X12_allLines_126 v2 h = some r) : Go M_X12_allLines (some (aI r.1), r.2) 126 [none, none, some (aI v2), none, none, none] [] h := by
  unfold j_X12_allLines_126 at H
  refine go_iloadn dX12_allLines_126 rfl ?_
  obtain ⟨hz, H⟩ := gm_zb H
  obtain rfl := Option.some.inj H
  exact go_ireturn (x := v2) dX12_allLines_127 (tyI_bool rfl hz)
def m_X12_allLines (v0 : Nat) (v1 : Int32) (h : Hp) : Option (Int32 × Hp) :=
  (pfI h v0 12 23 (0 : Int32)).bind fun hh1 => l_X12_allLines_7 v0 v1 (fun a1_2 hz1 => j_X12_allLines_126 a1_2 hz1) (1 : Int32) hh1
set_option maxRecDepth 20000 in
theorem ok_X12_allLines {r : (Int32 × Hp)} {v0 : Nat} {v1 : Int32} {h : Hp} (H : m_X12_allLines v0 v1 h = some r) : Ev M_X12_allLines [aA v0, aI v1] h (some (aI r.1), r.2) := by
  show Go M_X12_allLines (some (aI r.1), r.2) 0 [some (aA v0), some (aI v1), none, none, none, none] [] h
  unfold m_X12_allLines at H
  refine go_iconst (v := (1 : Int32)) dX12_allLines_0 rfl ?_
  refine go_istoren (loc2 := [some (aA v0), some (aI v1), some (aI (1 : Int32)), none, none, none]) dX12_allLines_1 rfl (by decide) rfl ?_
  refine go_aloadn dX12_allLines_2 rfl ?_
  refine go_iconst (v := (0 : Int32)) dX12_allLines_3 rfl ?_
  refine gm_putI fd_X12_143 (Or.inl rfl) dX12_allLines_4 H (fun hh1 H => ?_)
  refine okl_X12_allLines_7 v0 v1 (fun a1_2 hz1 => j_X12_allLines_126 a1_2 hz1) (1 : Int32) hh1 ?_ H
  · intro a1_2 hz1 H
    exact okj_X12_allLines_126 a1_2 hz1  H
/-! X12_readText -/
def b_X12_readText_2 (v0 : Nat) (v1 : Int32) (K22 : Hp → Option (Int32 × Hp)) (k : Int32 → Hp → Option (Int32 × Hp)) (v2 : Int32) (h : Hp) : Option (Int32 × Hp) :=
  if (1526 : Int32) ≤ v2 then K22 h else (gfR h v0 12 18).bind fun x1 => (asI h x1 v2 (0 : Int32)).bind fun hh1 => k (v2 + (1 : Int32)) hh1
set_option maxRecDepth 20000 in
theorem okb_X12_readText_2 {r : (Int32 × Hp)} (v0 : Nat) (v1 : Int32) (K22 : Hp → Option (Int32 × Hp)) (k : Int32 → Hp → Option (Int32 × Hp)) (v2 : Int32) (h : Hp) (HK22 : ∀   (hq : Hp), K22 hq = some r → Go M_X12_readText (some (aI r.1), r.2) 22 [some (aA v0), some (aI v1), none] [] hq) (Hk : ∀ (v2q : Int32) (hq : Hp), k v2q hq = some r → Go M_X12_readText (some (aI r.1), r.2) 2 [some (aA v0), some (aI v1), some (aI v2q)] [] hq) (H : b_X12_readText_2 v0 v1 K22 k v2 h = some r) : Go M_X12_readText (some (aI r.1), r.2) 2 [some (aA v0), some (aI v1), some (aI v2)] [] h := by
  unfold b_X12_readText_2 at H
  refine go_iloadn dX12_readText_2 rfl ?_
  refine go_sipush (v := (1526 : Int32)) dX12_readText_3 rfl ?_
  refine go_icmp_ge (tgt := 22) dX12_readText_6 (by decide) (fun c1 => ?_) (fun c1 => ?_)
  · replace H := (gm_ite H).1 c1
    refine go_mask [true, true, false] (loc' := [some (aA v0), some (aI v1), none]) rfl ?_
    exact HK22 h H
  · replace H := (gm_ite H).2 c1
    refine go_aloadn dX12_readText_9 rfl ?_
    refine gm_getR fd_X12_35 dX12_readText_10 H (fun x1 H => ?_)
    refine go_iloadn dX12_readText_13 rfl ?_
    refine go_iconst (v := (0 : Int32)) dX12_readText_14 rfl ?_
    refine gm_iast dX12_readText_15 H (fun hh1 H => ?_)
    refine go_iinc (v := (v2 + (1 : Int32))) (loc2 := [some (aA v0), some (aI v1), some (aI (v2 + (1 : Int32)))]) dX12_readText_16 rfl rfl (by decide) rfl ?_
    refine go_goto (tgt := 2) dX12_readText_19 (by decide) ?_
    exact Hk (v2 + (1 : Int32)) hh1 H
def l_X12_readText_2 (v0 : Nat) (v1 : Int32) (K22 : Hp → Option (Int32 × Hp)) (v2 : Int32) (h : Hp) : Option (Int32 × Hp) := loopK FUEL (fun (k : Int32 × Hp → Option (Int32 × Hp)) (s : Int32 × Hp) => b_X12_readText_2 v0 v1 K22 (fun v2q hq => k (v2q, hq)) s.1 s.2) (v2, h)
theorem okl_X12_readText_2 {r : (Int32 × Hp)} (v0 : Nat) (v1 : Int32) (K22 : Hp → Option (Int32 × Hp)) (v2 : Int32) (h : Hp) (HK22 : ∀   (hq : Hp), K22 hq = some r → Go M_X12_readText (some (aI r.1), r.2) 22 [some (aA v0), some (aI v1), none] [] hq) (H : l_X12_readText_2 v0 v1 K22 v2 h = some r) : Go M_X12_readText (some (aI r.1), r.2) 2 [some (aA v0), some (aI v1), some (aI v2)] [] h := by
  unfold l_X12_readText_2 at H
  exact go_loop (σ := Int32 × Hp) (body := (fun (k : Int32 × Hp → Option (Int32 × Hp)) (s : Int32 × Hp) => b_X12_readText_2 v0 v1 K22 (fun v2q hq => k (v2q, hq)) s.1 s.2)) (fun s => [some (aA v0), some (aI v1), some (aI s.1)]) (fun s => s.2) (fun k s Hk H => okb_X12_readText_2 v0 v1 K22 (fun v2q hq => k (v2q, hq)) s.1 s.2 HK22 (fun v2q hq H => Hk (v2q, hq) H) H) FUEL (v2, h) H
def j_X12_readText_106  (s0 : Int32) (h : Hp) : Option (Int32 × Hp) :=
  (zb s0).bind fun x1 => some (x1, h)
set_option maxRecDepth 20000 in
theorem okj_X12_readText_106 {r : (Int32 × Hp)}  (s0 : Int32) (h : Hp) (H : j_X12_readText_106 s0 h = some r) : Go M_X12_readText (some (aI r.1), r.2) 106 [none, none, none] [aI s0] h := by
  unfold j_X12_readText_106 at H
  obtain ⟨hz, H⟩ := gm_zb H
  obtain rfl := Option.some.inj H
  exact go_ireturn (x := s0) dX12_readText_106 (tyI_bool rfl hz)
def j_X12_readText_91 (v0 : Nat) (s0 : Nat) (s1 : Int32) (s2 : Int32) (h : Hp) : Option (Int32 × Hp) :=
  (asI h s0 s1 s2).bind fun hh1 => (gfR hh1 v0 12 3).bind fun x1 => (alI hh1 x1 (0 : Int32)).bind fun x2 => j_X12_readText_106 (if ¬ x2 = 0 then (0 : Int32) else (1 : Int32)) hh1
set_option maxRecDepth 20000 in
theorem okj_X12_readText_91 {r : (Int32 × Hp)} (v0 : Nat) (s0 : Nat) (s1 : Int32) (s2 : Int32) (h : Hp) (H : j_X12_readText_91 v0 s0 s1 s2 h = some r) : Go M_X12_readText (some (aI r.1), r.2) 91 [some (aA v0), none, none] [aI s2, aI s1, aA s0] h := by
  unfold j_X12_readText_91 at H
  refine gm_iast dX12_readText_91 H (fun hh1 H => ?_)
  refine go_aloadn dX12_readText_92 rfl ?_
  refine gm_getR fd_X12_17 dX12_readText_93 H (fun x1 H => ?_)
  refine go_iconst (v := (0 : Int32)) dX12_readText_96 rfl ?_
  refine gm_iald dX12_readText_97 H (fun x2 H => ?_)
  refine go_if_ne (tgt := 105) dX12_readText_98 (by decide) (fun c1 => ?_) (fun c1 => ?_)
  · rw [if_pos c1] at H
    refine go_iconst (v := (0 : Int32)) dX12_readText_105 rfl ?_
    refine go_mask [false, false, false] (loc' := [none, none, none]) rfl ?_
    exact okj_X12_readText_106 (0 : Int32) hh1  H
  · rw [if_neg c1] at H
    refine go_iconst (v := (1 : Int32)) dX12_readText_101 rfl ?_
    refine go_goto (tgt := 106) dX12_readText_102 (by decide) ?_
    refine go_mask [false, false, false] (loc' := [none, none, none]) rfl ?_
    exact okj_X12_readText_106 (1 : Int32) hh1  H
def j_X12_readText_59 (v0 : Nat) (v2 : Int32) (s0 : Nat) (s1 : Int32) (s2 : Int32) (h : Hp) : Option (Int32 × Hp) :=
  (asI h s0 s1 s2).bind fun hh1 => (gfR hh1 v0 12 4).bind fun x1 => if ¬ v2 = 0 then ((gfI hh1 v0 12 16).bind fun x2 => if x2 ≤ 0 then j_X12_readText_91 v0 x1 (0 : Int32) (-1 : Int32) hh1 else (gfI hh1 v0 12 17).bind fun x3 => j_X12_readText_91 v0 x1 (0 : Int32) x3 hh1) else (gfI hh1 v0 12 15).bind fun x4 => j_X12_readText_91 v0 x1 (0 : Int32) x4 hh1
set_option maxRecDepth 20000 in
theorem okj_X12_readText_59 {r : (Int32 × Hp)} (v0 : Nat) (v2 : Int32) (s0 : Nat) (s1 : Int32) (s2 : Int32) (h : Hp) (H : j_X12_readText_59 v0 v2 s0 s1 s2 h = some r) : Go M_X12_readText (some (aI r.1), r.2) 59 [some (aA v0), none, some (aI v2)] [aI s2, aI s1, aA s0] h := by
  unfold j_X12_readText_59 at H
  refine gm_iast dX12_readText_59 H (fun hh1 H => ?_)
  refine go_aloadn dX12_readText_60 rfl ?_
  refine gm_getR fd_X12_20 dX12_readText_61 H (fun x1 H => ?_)
  refine go_iconst (v := (0 : Int32)) dX12_readText_64 rfl ?_
  refine go_iloadn dX12_readText_65 rfl ?_
  refine go_if_ne (tgt := 76) dX12_readText_66 (by decide) (fun c1 => ?_) (fun c1 => ?_)
  · replace H := (gm_ite H).1 c1
    refine go_aloadn dX12_readText_76 rfl ?_
    refine gm_getI fd_X12_106 dX12_readText_77 H (fun x2 H => ?_)
    refine go_if_le (tgt := 90) dX12_readText_80 (by decide) (fun c2 => ?_) (fun c2 => ?_)
    · replace H := (gm_ite H).1 c2
      refine go_iconst (v := (-1 : Int32)) dX12_readText_90 rfl ?_
      refine go_mask [true, false, false] (loc' := [some (aA v0), none, none]) rfl ?_
      exact okj_X12_readText_91 v0 x1 (0 : Int32) (-1 : Int32) hh1  H
    · replace H := (gm_ite H).2 c2
      refine go_aloadn dX12_readText_83 rfl ?_
      refine gm_getI fd_X12_109 dX12_readText_84 H (fun x3 H => ?_)
      refine go_goto (tgt := 91) dX12_readText_87 (by decide) ?_
      refine go_mask [true, false, false] (loc' := [some (aA v0), none, none]) rfl ?_
      exact okj_X12_readText_91 v0 x1 (0 : Int32) x3 hh1  H
  · replace H := (gm_ite H).2 c1
    refine go_aloadn dX12_readText_69 rfl ?_
    refine gm_getI fd_X12_103 dX12_readText_70 H (fun x4 H => ?_)
    refine go_goto (tgt := 91) dX12_readText_73 (by decide) ?_
    refine go_mask [true, false, false] (loc' := [some (aA v0), none, none]) rfl ?_
    exact okj_X12_readText_91 v0 x1 (0 : Int32) x4 hh1  H
def j_X12_readText_22 (v0 : Nat) (v1 : Int32)  (h : Hp) : Option (Int32 × Hp) :=
  (pfI h v0 12 9 (0 : Int32)).bind fun hh1 => (pfI hh1 v0 12 16 (0 : Int32)).bind fun hh2 => (rc hh2 v0 12 (m_X12_token v0 hh2)).bind fun x1 => (rc x1 v0 12 (m_X12_allLines v0 v1 x1)).bind fun x2 => (gfR x2.2 v0 12 3).bind fun x3 => if x2.1 = 0 then j_X12_readText_59 v0 x2.1 x3 (0 : Int32) (1 : Int32) x2.2 else (gfI x2.2 v0 12 16).bind fun x4 => j_X12_readText_59 v0 x2.1 x3 (0 : Int32) x4 x2.2
set_option maxRecDepth 20000 in
theorem okj_X12_readText_22 {r : (Int32 × Hp)} (v0 : Nat) (v1 : Int32)  (h : Hp) (H : j_X12_readText_22 v0 v1 h = some r) : Go M_X12_readText (some (aI r.1), r.2) 22 [some (aA v0), some (aI v1), none] [] h := by
  unfold j_X12_readText_22 at H
  refine go_aloadn dX12_readText_22 rfl ?_
  refine go_iconst (v := (0 : Int32)) dX12_readText_23 rfl ?_
  refine gm_putI fd_X12_80 (Or.inl rfl) dX12_readText_24 H (fun hh1 H => ?_)
  refine go_aloadn dX12_readText_27 rfl ?_
  refine go_iconst (v := (0 : Int32)) dX12_readText_28 rfl ?_
  refine gm_putI fd_X12_106 (Or.inl rfl) dX12_readText_29 H (fun hh2 H => ?_)
  refine go_aloadn dX12_readText_32 rfl ?_
  obtain ⟨c1, x1, ex1, H⟩ := gm_rc H
  refine go_callV (vs := []) (stk := []) (o1 := (none, x1)) mk_X12_token sv_X12_readText_124 cl_X12 rfl dX12_readText_33 c1 rfl rfl (Nat.le_of_ble_eq_true rfl) (Nat.le_of_ble_eq_true rfl) (ok_X12_token ex1) (show Go M_X12_readText (some (aI r.1), r.2) 36 [some (aA v0), some (aI v1), none] [] x1 from ?_)
  refine go_aloadn dX12_readText_36 rfl ?_
  refine go_iloadn dX12_readText_37 rfl ?_
  obtain ⟨c2, x2, ex2, H⟩ := gm_rc H
  refine go_callV (vs := [aI v1]) (stk := []) (o1 := (some (aI x2.1), x2.2)) mk_X12_allLines sv_X12_readText_240 cl_X12 rfl dX12_readText_38 c2 rfl rfl (Nat.le_of_ble_eq_true rfl) (Nat.le_of_ble_eq_true rfl) (ok_X12_allLines ex2) (show Go M_X12_readText (some (aI r.1), r.2) 41 [some (aA v0), some (aI v1), none] [aI x2.1] x2.2 from ?_)
  refine go_istoren (loc2 := [some (aA v0), some (aI v1), some (aI x2.1)]) dX12_readText_41 rfl (by decide) rfl ?_
  refine go_aloadn dX12_readText_42 rfl ?_
  refine gm_getR fd_X12_17 dX12_readText_43 H (fun x3 H => ?_)
  refine go_iconst (v := (0 : Int32)) dX12_readText_46 rfl ?_
  refine go_iloadn dX12_readText_47 rfl ?_
  refine go_if_eq (tgt := 58) dX12_readText_48 (by decide) (fun c3 => ?_) (fun c3 => ?_)
  · replace H := (gm_ite H).1 c3
    refine go_iconst (v := (1 : Int32)) dX12_readText_58 rfl ?_
    refine go_mask [true, false, true] (loc' := [some (aA v0), none, some (aI x2.1)]) rfl ?_
    exact okj_X12_readText_59 v0 x2.1 x3 (0 : Int32) (1 : Int32) x2.2  H
  · replace H := (gm_ite H).2 c3
    refine go_aloadn dX12_readText_51 rfl ?_
    refine gm_getI fd_X12_106 dX12_readText_52 H (fun x4 H => ?_)
    refine go_goto (tgt := 59) dX12_readText_55 (by decide) ?_
    refine go_mask [true, false, true] (loc' := [some (aA v0), none, some (aI x2.1)]) rfl ?_
    exact okj_X12_readText_59 v0 x2.1 x3 (0 : Int32) x4 x2.2  H
def m_X12_readText (v0 : Nat) (v1 : Int32) (h : Hp) : Option (Int32 × Hp) :=
  l_X12_readText_2 v0 v1 (fun hz1 => j_X12_readText_22 v0 v1 hz1) (0 : Int32) h
set_option maxRecDepth 20000 in
theorem ok_X12_readText {r : (Int32 × Hp)} {v0 : Nat} {v1 : Int32} {h : Hp} (H : m_X12_readText v0 v1 h = some r) : Ev M_X12_readText [aA v0, aI v1] h (some (aI r.1), r.2) := by
  show Go M_X12_readText (some (aI r.1), r.2) 0 [some (aA v0), some (aI v1), none] [] h
  unfold m_X12_readText at H
  refine go_iconst (v := (0 : Int32)) dX12_readText_0 rfl ?_
  refine go_istoren (loc2 := [some (aA v0), some (aI v1), some (aI (0 : Int32))]) dX12_readText_1 rfl (by decide) rfl ?_
  refine okl_X12_readText_2 v0 v1 (fun hz1 => j_X12_readText_22 v0 v1 hz1) (0 : Int32) h ?_ H
  · intro hz1 H
    exact okj_X12_readText_22 v0 v1 hz1  H
/-! X12_store -/
def b_X12_store_3 (v0 : Nat) (v1 : Nat) (v2 : Int32) (v3 : Int32) (k : Int32 → Hp → Option Hp) (v4 : Int32) (h : Hp) : Option Hp :=
  if v2 ≤ v4 then (some h) else (gfR h v0 12 18).bind fun x1 => (alI h x1 v4).bind fun x2 => (asI h v1 ((v2 * v3) + v4) x2).bind fun hh1 => k (v4 + (1 : Int32)) hh1
set_option maxRecDepth 20000 in
theorem okb_X12_store_3 {r : Hp} (v0 : Nat) (v1 : Nat) (v2 : Int32) (v3 : Int32) (k : Int32 → Hp → Option Hp) (v4 : Int32) (h : Hp) (Hk : ∀ (v4q : Int32) (hq : Hp), k v4q hq = some r → Go M_X12_store (none, r) 3 [some (aA v0), some (aA v1), some (aI v2), some (aI v3), some (aI v4q)] [] hq) (H : b_X12_store_3 v0 v1 v2 v3 k v4 h = some r) : Go M_X12_store (none, r) 3 [some (aA v0), some (aA v1), some (aI v2), some (aI v3), some (aI v4)] [] h := by
  unfold b_X12_store_3 at H
  refine go_iload dX12_store_3 rfl ?_
  refine go_iloadn dX12_store_5 rfl ?_
  refine go_icmp_ge (tgt := 30) dX12_store_6 (by decide) (fun c1 => ?_) (fun c1 => ?_)
  · replace H := (gm_ite H).1 c1
    obtain rfl := Option.some.inj H
    exact go_return dX12_store_30 rfl
  · replace H := (gm_ite H).2 c1
    refine go_aloadn dX12_store_9 rfl ?_
    refine go_iloadn dX12_store_10 rfl ?_
    refine go_iloadn dX12_store_11 rfl ?_
    refine go_imul dX12_store_12 ?_
    refine go_iload dX12_store_13 rfl ?_
    refine go_iadd dX12_store_15 ?_
    refine go_aloadn dX12_store_16 rfl ?_
    refine gm_getR fd_X12_35 dX12_store_17 H (fun x1 H => ?_)
    refine go_iload dX12_store_20 rfl ?_
    refine gm_iald dX12_store_22 H (fun x2 H => ?_)
    refine gm_iast dX12_store_23 H (fun hh1 H => ?_)
    refine go_iinc (v := (v4 + (1 : Int32))) (loc2 := [some (aA v0), some (aA v1), some (aI v2), some (aI v3), some (aI (v4 + (1 : Int32)))]) dX12_store_24 rfl rfl (by decide) rfl ?_
    refine go_goto (tgt := 3) dX12_store_27 (by decide) ?_
    exact Hk (v4 + (1 : Int32)) hh1 H
def l_X12_store_3 (v0 : Nat) (v1 : Nat) (v2 : Int32) (v3 : Int32) (v4 : Int32) (h : Hp) : Option Hp := loopK FUEL (fun (k : Int32 × Hp → Option Hp) (s : Int32 × Hp) => b_X12_store_3 v0 v1 v2 v3 (fun v4q hq => k (v4q, hq)) s.1 s.2) (v4, h)
theorem okl_X12_store_3 {r : Hp} (v0 : Nat) (v1 : Nat) (v2 : Int32) (v3 : Int32) (v4 : Int32) (h : Hp) (H : l_X12_store_3 v0 v1 v2 v3 v4 h = some r) : Go M_X12_store (none, r) 3 [some (aA v0), some (aA v1), some (aI v2), some (aI v3), some (aI v4)] [] h := by
  unfold l_X12_store_3 at H
  exact go_loop (σ := Int32 × Hp) (body := (fun (k : Int32 × Hp → Option Hp) (s : Int32 × Hp) => b_X12_store_3 v0 v1 v2 v3 (fun v4q hq => k (v4q, hq)) s.1 s.2)) (fun s => [some (aA v0), some (aA v1), some (aI v2), some (aI v3), some (aI s.1)]) (fun s => s.2) (fun k s Hk H => okb_X12_store_3 v0 v1 v2 v3 (fun v4q hq => k (v4q, hq)) s.1 s.2  (fun v4q hq H => Hk (v4q, hq) H) H) FUEL (v4, h) H
def m_X12_store (v0 : Nat) (v1 : Nat) (v2 : Int32) (v3 : Int32) (h : Hp) : Option Hp :=
  l_X12_store_3 v0 v1 v2 v3 (0 : Int32) h
set_option maxRecDepth 20000 in
theorem ok_X12_store {r : Hp} {v0 : Nat} {v1 : Nat} {v2 : Int32} {v3 : Int32} {h : Hp} (H : m_X12_store v0 v1 v2 v3 h = some r) : Ev M_X12_store [aA v0, aA v1, aI v2, aI v3] h (none, r) := by
  show Go M_X12_store (none, r) 0 [some (aA v0), some (aA v1), some (aI v2), some (aI v3), none] [] h
  unfold m_X12_store at H
  refine go_iconst (v := (0 : Int32)) dX12_store_0 rfl ?_
  refine go_istore (loc2 := [some (aA v0), some (aA v1), some (aI v2), some (aI v3), some (aI (0 : Int32))]) dX12_store_1 (by decide) rfl ?_
  exact okl_X12_store_3 v0 v1 v2 v3 (0 : Int32) h H
/-! X12_text -/
def j_X12_text_118 (v0 : Nat) (v1 : Int32) (v3 : Int32) (s0 : Nat) (s1 : Int32) (s2 : Int32) (s3 : Int32) (h : Hp) : Option (Int32 × Hp) :=
  (asI h s0 s1 (s2 + s3)).bind fun hh1 => if ¬ v1 = 0 then (if ¬ v1 = (1 : Int32) then ((gfR hh1 v0 12 8).bind fun x1 => (rc hh1 v0 12 (m_X12_store v0 x1 (25 : Int32) v3 hh1)).bind fun x2 => some (v3, x2)) else (gfR hh1 v0 12 7).bind fun x3 => (rc hh1 v0 12 (m_X12_store v0 x3 (57 : Int32) v3 hh1)).bind fun x4 => some (v3, x4)) else (gfR hh1 v0 12 6).bind fun x5 => (rc hh1 v0 12 (m_X12_store v0 x5 (1526 : Int32) v3 hh1)).bind fun x6 => some (v3, x6)
set_option maxRecDepth 20000 in
theorem okj_X12_text_118 {r : (Int32 × Hp)} (v0 : Nat) (v1 : Int32) (v3 : Int32) (s0 : Nat) (s1 : Int32) (s2 : Int32) (s3 : Int32) (h : Hp) (H : j_X12_text_118 v0 v1 v3 s0 s1 s2 s3 h = some r) : Go M_X12_text (some (aI r.1), r.2) 118 [some (aA v0), some (aI v1), none, some (aI v3)] [aI s3, aI s2, aI s1, aA s0] h := by
  unfold j_X12_text_118 at H
  refine go_iadd dX12_text_118 ?_
  refine gm_iast dX12_text_119 H (fun hh1 H => ?_)
  refine go_iloadn dX12_text_120 rfl ?_
  refine go_if_ne (tgt := 139) dX12_text_121 (by decide) (fun c1 => ?_) (fun c1 => ?_)
  · replace H := (gm_ite H).1 c1
    refine go_iloadn dX12_text_139 rfl ?_
    refine go_iconst (v := (1 : Int32)) dX12_text_140 rfl ?_
    refine go_icmp_ne (tgt := 158) dX12_text_141 (by decide) (fun c2 => ?_) (fun c2 => ?_)
    · replace H := (gm_ite H).1 c2
      refine go_aloadn dX12_text_158 rfl ?_
      refine go_aloadn dX12_text_159 rfl ?_
      refine gm_getR fd_X12_32 dX12_text_160 H (fun x1 H => ?_)
      refine go_bipush (v := (25 : Int32)) dX12_text_163 rfl ?_
      refine go_iloadn dX12_text_165 rfl ?_
      obtain ⟨c3, x2, ex2, H⟩ := gm_rc H
      refine go_callV (vs := [aA x1, aI (25 : Int32), aI v3]) (stk := []) (o1 := (none, x2)) mk_X12_store sv_X12_text_249 cl_X12 rfl dX12_text_166 c3 rfl rfl (Nat.le_of_ble_eq_true rfl) (Nat.le_of_ble_eq_true rfl) (ok_X12_store ex2) (show Go M_X12_text (some (aI r.1), r.2) 169 [some (aA v0), some (aI v1), none, some (aI v3)] [] x2 from ?_)
      refine go_iloadn dX12_text_169 rfl ?_
      obtain rfl := Option.some.inj H
      exact go_ireturn dX12_text_170 (tyI_int rfl)
    · replace H := (gm_ite H).2 c2
      refine go_aloadn dX12_text_144 rfl ?_
      refine go_aloadn dX12_text_145 rfl ?_
      refine gm_getR fd_X12_29 dX12_text_146 H (fun x3 H => ?_)
      refine go_bipush (v := (57 : Int32)) dX12_text_149 rfl ?_
      refine go_iloadn dX12_text_151 rfl ?_
      obtain ⟨c4, x4, ex4, H⟩ := gm_rc H
      refine go_callV (vs := [aA x3, aI (57 : Int32), aI v3]) (stk := []) (o1 := (none, x4)) mk_X12_store sv_X12_text_249 cl_X12 rfl dX12_text_152 c4 rfl rfl (Nat.le_of_ble_eq_true rfl) (Nat.le_of_ble_eq_true rfl) (ok_X12_store ex4) (show Go M_X12_text (some (aI r.1), r.2) 155 [some (aA v0), some (aI v1), none, some (aI v3)] [] x4 from ?_)
      refine go_goto (tgt := 169) dX12_text_155 (by decide) ?_
      refine go_iloadn dX12_text_169 rfl ?_
      obtain rfl := Option.some.inj H
      exact go_ireturn dX12_text_170 (tyI_int rfl)
  · replace H := (gm_ite H).2 c1
    refine go_aloadn dX12_text_124 rfl ?_
    refine go_aloadn dX12_text_125 rfl ?_
    refine gm_getR fd_X12_26 dX12_text_126 H (fun x5 H => ?_)
    refine go_sipush (v := (1526 : Int32)) dX12_text_129 rfl ?_
    refine go_iloadn dX12_text_132 rfl ?_
    obtain ⟨c5, x6, ex6, H⟩ := gm_rc H
    refine go_callV (vs := [aA x5, aI (1526 : Int32), aI v3]) (stk := []) (o1 := (none, x6)) mk_X12_store sv_X12_text_249 cl_X12 rfl dX12_text_133 c5 rfl rfl (Nat.le_of_ble_eq_true rfl) (Nat.le_of_ble_eq_true rfl) (ok_X12_store ex6) (show Go M_X12_text (some (aI r.1), r.2) 136 [some (aA v0), some (aI v1), none, some (aI v3)] [] x6 from ?_)
    refine go_goto (tgt := 169) dX12_text_136 (by decide) ?_
    refine go_iloadn dX12_text_169 rfl ?_
    obtain rfl := Option.some.inj H
    exact go_ireturn dX12_text_170 (tyI_int rfl)
def j_X12_text_100 (v0 : Nat) (v1 : Int32) (v2 : Int32) (s0 : Int32) (h : Hp) : Option (Int32 × Hp) :=
  (gfR h v0 12 5).bind fun x1 => (alI h x1 v1).bind fun x2 => if ¬ v2 = (-1 : Int32) then (j_X12_text_118 v0 v1 s0 x1 v1 x2 (0 : Int32) h) else j_X12_text_118 v0 v1 s0 x1 v1 x2 (1 : Int32) h
set_option maxRecDepth 20000 in
theorem okj_X12_text_100 {r : (Int32 × Hp)} (v0 : Nat) (v1 : Int32) (v2 : Int32) (s0 : Int32) (h : Hp) (H : j_X12_text_100 v0 v1 v2 s0 h = some r) : Go M_X12_text (some (aI r.1), r.2) 100 [some (aA v0), some (aI v1), some (aI v2), none] [aI s0] h := by
  unfold j_X12_text_100 at H
  refine go_istoren (loc2 := [some (aA v0), some (aI v1), some (aI v2), some (aI s0)]) dX12_text_100 rfl (by decide) rfl ?_
  refine go_aloadn dX12_text_101 rfl ?_
  refine gm_getR fd_X12_23 dX12_text_102 H (fun x1 H => ?_)
  refine go_iloadn dX12_text_105 rfl ?_
  refine go_dup2IA dX12_text_106 ?_
  refine gm_iald dX12_text_107 H (fun x2 H => ?_)
  refine go_iloadn dX12_text_108 rfl ?_
  refine go_iconst (v := (-1 : Int32)) dX12_text_109 rfl ?_
  refine go_icmp_ne (tgt := 117) dX12_text_110 (by decide) (fun c1 => ?_) (fun c1 => ?_)
  · replace H := (gm_ite H).1 c1
    refine go_iconst (v := (0 : Int32)) dX12_text_117 rfl ?_
    refine go_mask [true, true, false, true] (loc' := [some (aA v0), some (aI v1), none, some (aI s0)]) rfl ?_
    exact okj_X12_text_118 v0 v1 s0 x1 v1 x2 (0 : Int32) h  H
  · replace H := (gm_ite H).2 c1
    refine go_iconst (v := (1 : Int32)) dX12_text_113 rfl ?_
    refine go_goto (tgt := 118) dX12_text_114 (by decide) ?_
    refine go_mask [true, true, false, true] (loc' := [some (aA v0), some (aI v1), none, some (aI s0)]) rfl ?_
    exact okj_X12_text_118 v0 v1 s0 x1 v1 x2 (1 : Int32) h  H
def j_X12_text_75 (v0 : Nat) (v1 : Int32) (v2 : Int32)  (h : Hp) : Option (Int32 × Hp) :=
  (rc h v0 12 (m_X12_readText v0 v1 h)).bind fun x1 => if ¬ x1.1 = 0 then (if ¬ v2 = (-1 : Int32) then j_X12_text_100 v0 v1 v2 v2 x1.2 else (gfR x1.2 v0 12 5).bind fun x2 => (alI x1.2 x2 v1).bind fun x3 => j_X12_text_100 v0 v1 v2 x3 x1.2) else some ((-1 : Int32), x1.2)
set_option maxRecDepth 20000 in
theorem okj_X12_text_75 {r : (Int32 × Hp)} (v0 : Nat) (v1 : Int32) (v2 : Int32)  (h : Hp) (H : j_X12_text_75 v0 v1 v2 h = some r) : Go M_X12_text (some (aI r.1), r.2) 75 [some (aA v0), some (aI v1), some (aI v2), none] [] h := by
  unfold j_X12_text_75 at H
  refine go_aloadn dX12_text_75 rfl ?_
  refine go_iloadn dX12_text_76 rfl ?_
  obtain ⟨c1, x1, ex1, H⟩ := gm_rc H
  refine go_callV (vs := [aI v1]) (stk := []) (o1 := (some (aI x1.1), x1.2)) mk_X12_readText sv_X12_text_246 cl_X12 rfl dX12_text_77 c1 rfl rfl (Nat.le_of_ble_eq_true rfl) (Nat.le_of_ble_eq_true rfl) (ok_X12_readText ex1) (show Go M_X12_text (some (aI r.1), r.2) 80 [some (aA v0), some (aI v1), some (aI v2), none] [aI x1.1] x1.2 from ?_)
  refine go_if_ne (tgt := 85) dX12_text_80 (by decide) (fun c2 => ?_) (fun c2 => ?_)
  · replace H := (gm_ite H).1 c2
    refine go_iloadn dX12_text_85 rfl ?_
    refine go_iconst (v := (-1 : Int32)) dX12_text_86 rfl ?_
    refine go_icmp_ne (tgt := 99) dX12_text_87 (by decide) (fun c3 => ?_) (fun c3 => ?_)
    · replace H := (gm_ite H).1 c3
      refine go_iloadn dX12_text_99 rfl ?_
      exact okj_X12_text_100 v0 v1 v2 v2 x1.2  H
    · replace H := (gm_ite H).2 c3
      refine go_aloadn dX12_text_90 rfl ?_
      refine gm_getR fd_X12_23 dX12_text_91 H (fun x2 H => ?_)
      refine go_iloadn dX12_text_94 rfl ?_
      refine gm_iald dX12_text_95 H (fun x3 H => ?_)
      refine go_goto (tgt := 100) dX12_text_96 (by decide) ?_
      exact okj_X12_text_100 v0 v1 v2 x3 x1.2  H
  · replace H := (gm_ite H).2 c2
    refine go_iconst (v := (-1 : Int32)) dX12_text_83 rfl ?_
    obtain rfl := Option.some.inj H
    exact go_ireturn dX12_text_84 (tyI_int rfl)
def m_X12_text (v0 : Nat) (v1 : Int32) (v2 : Int32) (h : Hp) : Option (Int32 × Hp) :=
  (pfI h v0 12 0 (0 : Int32)).bind fun hh1 => (gfR hh1 v0 12 2).bind fun x1 => (alI hh1 x1 (0 : Int32)).bind fun x2 => (pfI hh1 v0 12 10 x2).bind fun hh2 => (gfR hh2 v0 12 2).bind fun x3 => (asI hh2 x3 (0 : Int32) (0 : Int32)).bind fun hh3 => (gfR hh3 v0 12 3).bind fun x4 => (asI hh3 x4 (0 : Int32) (0 : Int32)).bind fun hh4 => (gfR hh4 v0 12 4).bind fun x5 => (asI hh4 x5 (0 : Int32) (-1 : Int32)).bind fun hh5 => (m_X12_in v1 (0 : Int32) (2 : Int32) hh5).bind fun x6 => if x6 = 0 then (some ((-2 : Int32), hh5)) else if ¬ v2 = (-1 : Int32) then ((rc hh5 v0 12 (m_X12_is v0 v1 v2 hh5)).bind fun x7 => if ¬ x7 = 0 then j_X12_text_75 v0 v1 v2 hh5 else some ((-2 : Int32), hh5)) else (gfR hh5 v0 12 5).bind fun x8 => (alI hh5 x8 v1).bind fun x9 => if ¬ x9 = (2 : Int32) then j_X12_text_75 v0 v1 v2 hh5 else some ((-2 : Int32), hh5)
set_option maxRecDepth 20000 in
theorem ok_X12_text {r : (Int32 × Hp)} {v0 : Nat} {v1 : Int32} {v2 : Int32} {h : Hp} (H : m_X12_text v0 v1 v2 h = some r) : Ev M_X12_text [aA v0, aI v1, aI v2] h (some (aI r.1), r.2) := by
  show Go M_X12_text (some (aI r.1), r.2) 0 [some (aA v0), some (aI v1), some (aI v2), none] [] h
  unfold m_X12_text at H
  refine go_aloadn dX12_text_0 rfl ?_
  refine go_iconst (v := (0 : Int32)) dX12_text_1 rfl ?_
  refine gm_putI fd_X12_60 (Or.inl rfl) dX12_text_2 H (fun hh1 H => ?_)
  refine go_aloadn dX12_text_5 rfl ?_
  refine go_aloadn dX12_text_6 rfl ?_
  refine gm_getR fd_X12_13 dX12_text_7 H (fun x1 H => ?_)
  refine go_iconst (v := (0 : Int32)) dX12_text_10 rfl ?_
  refine gm_iald dX12_text_11 H (fun x2 H => ?_)
  refine gm_putI fd_X12_83 (Or.inl rfl) dX12_text_12 H (fun hh2 H => ?_)
  refine go_aloadn dX12_text_15 rfl ?_
  refine gm_getR fd_X12_13 dX12_text_16 H (fun x3 H => ?_)
  refine go_iconst (v := (0 : Int32)) dX12_text_19 rfl ?_
  refine go_iconst (v := (0 : Int32)) dX12_text_20 rfl ?_
  refine gm_iast dX12_text_21 H (fun hh3 H => ?_)
  refine go_aloadn dX12_text_22 rfl ?_
  refine gm_getR fd_X12_17 dX12_text_23 H (fun x4 H => ?_)
  refine go_iconst (v := (0 : Int32)) dX12_text_26 rfl ?_
  refine go_iconst (v := (0 : Int32)) dX12_text_27 rfl ?_
  refine gm_iast dX12_text_28 H (fun hh4 H => ?_)
  refine go_aloadn dX12_text_29 rfl ?_
  refine gm_getR fd_X12_20 dX12_text_30 H (fun x5 H => ?_)
  refine go_iconst (v := (0 : Int32)) dX12_text_33 rfl ?_
  refine go_iconst (v := (-1 : Int32)) dX12_text_34 rfl ?_
  refine gm_iast dX12_text_35 H (fun hh5 H => ?_)
  refine go_iloadn dX12_text_36 rfl ?_
  refine go_iconst (v := (0 : Int32)) dX12_text_37 rfl ?_
  refine go_iconst (v := (2 : Int32)) dX12_text_38 rfl ?_
  obtain ⟨x6, ex6, H⟩ := bind_some H
  refine go_callS (vs := [aI v1, aI (0 : Int32), aI (2 : Int32)]) (stk := []) (o1 := (some (aI x6), hh5)) mk_X12_in ss_X12_text_72 dX12_text_39 rfl rfl (Nat.le_of_ble_eq_true rfl) (Nat.le_of_ble_eq_true rfl) (ok_X12_in ex6) (show Go M_X12_text (some (aI r.1), r.2) 42 [some (aA v0), some (aI v1), some (aI v2), none] [aI x6] hh5 from ?_)
  refine go_if_eq (tgt := 72) dX12_text_42 (by decide) (fun c2 => ?_) (fun c2 => ?_)
  · replace H := (gm_ite H).1 c2
    refine go_bipush (v := (-2 : Int32)) dX12_text_72 rfl ?_
    obtain rfl := Option.some.inj H
    exact go_ireturn dX12_text_74 (tyI_int rfl)
  · replace H := (gm_ite H).2 c2
    refine go_iloadn dX12_text_45 rfl ?_
    refine go_iconst (v := (-1 : Int32)) dX12_text_46 rfl ?_
    refine go_icmp_ne (tgt := 63) dX12_text_47 (by decide) (fun c3 => ?_) (fun c3 => ?_)
    · replace H := (gm_ite H).1 c3
      refine go_aloadn dX12_text_63 rfl ?_
      refine go_iloadn dX12_text_64 rfl ?_
      refine go_iloadn dX12_text_65 rfl ?_
      obtain ⟨c4, x7, ex7, H⟩ := gm_rc H
      refine go_callV (vs := [aI v1, aI v2]) (stk := []) (o1 := (some (aI x7), hh5)) mk_X12_is sv_X12_text_243 cl_X12 rfl dX12_text_66 c4 rfl rfl (Nat.le_of_ble_eq_true rfl) (Nat.le_of_ble_eq_true rfl) (ok_X12_is ex7) (show Go M_X12_text (some (aI r.1), r.2) 69 [some (aA v0), some (aI v1), some (aI v2), none] [aI x7] hh5 from ?_)
      refine go_if_ne (tgt := 75) dX12_text_69 (by decide) (fun c5 => ?_) (fun c5 => ?_)
      · replace H := (gm_ite H).1 c5
        exact okj_X12_text_75 v0 v1 v2 hh5  H
      · replace H := (gm_ite H).2 c5
        refine go_bipush (v := (-2 : Int32)) dX12_text_72 rfl ?_
        obtain rfl := Option.some.inj H
        exact go_ireturn dX12_text_74 (tyI_int rfl)
    · replace H := (gm_ite H).2 c3
      refine go_aloadn dX12_text_50 rfl ?_
      refine gm_getR fd_X12_23 dX12_text_51 H (fun x8 H => ?_)
      refine go_iloadn dX12_text_54 rfl ?_
      refine gm_iald dX12_text_55 H (fun x9 H => ?_)
      refine go_iconst (v := (2 : Int32)) dX12_text_56 rfl ?_
      refine go_icmp_ne (tgt := 75) dX12_text_57 (by decide) (fun c6 => ?_) (fun c6 => ?_)
      · replace H := (gm_ite H).1 c6
        exact okj_X12_text_75 v0 v1 v2 hh5  H
      · replace H := (gm_ite H).2 c6
        refine go_goto (tgt := 72) dX12_text_60 (by decide) ?_
        refine go_bipush (v := (-2 : Int32)) dX12_text_72 rfl ?_
        obtain rfl := Option.some.inj H
        exact go_ireturn dX12_text_74 (tyI_int rfl)
/-! X11_fault -/
def m_X11_fault (v0 : Nat) (v1 : Int32) (h : Hp) : Option Int32 :=
  if v1 = (0 : Int32) then ((gfR h v0 11 0).bind fun x1 => (gfI h x1 9 1).bind fun x2 => some x2) else if v1 = (1 : Int32) then ((gfR h v0 11 0).bind fun x3 => (gfI h x3 9 2).bind fun x4 => some x4) else some (-1 : Int32)
set_option maxRecDepth 20000 in
theorem ok_X11_fault {r : Int32} {v0 : Nat} {v1 : Int32} {h : Hp} (H : m_X11_fault v0 v1 h = some r) : Ev M_X11_fault [aA v0, aI v1] h (some (aI r), h) := by
  show Go M_X11_fault (some (aI r), h) 0 [some (aA v0), some (aI v1)] [] h
  unfold m_X11_fault at H
  refine go_iloadn dX11_fault_0 rfl ?_
  by_cases c1 : v1 = (0 : Int32)
  · replace H := (gm_ite H).1 c1
    refine go_eqI c1 ?_
    refine go_lookup (tgt := 28) dX11_fault_1 (by decide) rfl (by decide) ?_
    refine go_aloadn dX11_fault_28 rfl ?_
    refine gm_getR fd_X11_10 dX11_fault_29 H (fun x1 H => ?_)
    refine gm_getI fd_X11_70 dX11_fault_32 H (fun x2 H => ?_)
    obtain rfl := Option.some.inj H
    exact go_ireturn dX11_fault_35 (tyI_int rfl)
  · replace H := (gm_ite H).2 c1
    by_cases c2 : v1 = (1 : Int32)
    · replace H := (gm_ite H).1 c2
      refine go_eqI c2 ?_
      refine go_lookup (tgt := 36) dX11_fault_1 (by decide) rfl (by decide) ?_
      refine go_aloadn dX11_fault_36 rfl ?_
      refine gm_getR fd_X11_10 dX11_fault_37 H (fun x3 H => ?_)
      refine gm_getI fd_X11_73 dX11_fault_40 H (fun x4 H => ?_)
      obtain rfl := Option.some.inj H
      exact go_ireturn dX11_fault_43 (tyI_int rfl)
    · replace H := (gm_ite H).2 c2
      refine go_lookup (tgt := 44) (off := 43) dX11_fault_1 (by decide) ((lv_osw c1 (by decide)).trans ((lv_osw c2 (by decide)).trans rfl)) (by decide) ?_
      refine go_iconst (v := (-1 : Int32)) dX11_fault_44 rfl ?_
      obtain rfl := Option.some.inj H
      exact go_ireturn dX11_fault_45 (tyI_int rfl)
/-! X12_fault -/
def j_X12_fault_33  (s0 : Int32) (h : Hp) : Option (Int32 × Hp) :=
  some (s0, h)
set_option maxRecDepth 20000 in
theorem okj_X12_fault_33 {r : (Int32 × Hp)}  (s0 : Int32) (h : Hp) (H : j_X12_fault_33 s0 h = some r) : Go M_X12_fault (some (aI r.1), r.2) 33 [none, none] [aI s0] h := by
  unfold j_X12_fault_33 at H
  obtain rfl := Option.some.inj H
  exact go_ireturn dX12_fault_33 (tyI_int rfl)
def m_X12_fault (v0 : Nat) (v1 : Int32) (h : Hp) : Option (Int32 × Hp) :=
  (pfI h v0 12 0 (0 : Int32)).bind fun hh1 => if ¬ v1 = 0 then (if ¬ v1 = (1 : Int32) then j_X12_fault_33 (-1 : Int32) hh1 else (gfR hh1 v0 12 4).bind fun x1 => (alI hh1 x1 (0 : Int32)).bind fun x2 => j_X12_fault_33 x2 hh1) else (gfR hh1 v0 12 3).bind fun x3 => (alI hh1 x3 (0 : Int32)).bind fun x4 => j_X12_fault_33 x4 hh1
set_option maxRecDepth 20000 in
theorem ok_X12_fault {r : (Int32 × Hp)} {v0 : Nat} {v1 : Int32} {h : Hp} (H : m_X12_fault v0 v1 h = some r) : Ev M_X12_fault [aA v0, aI v1] h (some (aI r.1), r.2) := by
  show Go M_X12_fault (some (aI r.1), r.2) 0 [some (aA v0), some (aI v1)] [] h
  unfold m_X12_fault at H
  refine go_aloadn dX12_fault_0 rfl ?_
  refine go_iconst (v := (0 : Int32)) dX12_fault_1 rfl ?_
  refine gm_putI fd_X12_60 (Or.inl rfl) dX12_fault_2 H (fun hh1 H => ?_)
  refine go_iloadn dX12_fault_5 rfl ?_
  refine go_if_ne (tgt := 18) dX12_fault_6 (by decide) (fun c1 => ?_) (fun c1 => ?_)
  · replace H := (gm_ite H).1 c1
    refine go_iloadn dX12_fault_18 rfl ?_
    refine go_iconst (v := (1 : Int32)) dX12_fault_19 rfl ?_
    refine go_icmp_ne (tgt := 32) dX12_fault_20 (by decide) (fun c2 => ?_) (fun c2 => ?_)
    · replace H := (gm_ite H).1 c2
      refine go_iconst (v := (-1 : Int32)) dX12_fault_32 rfl ?_
      refine go_mask [false, false] (loc' := [none, none]) rfl ?_
      exact okj_X12_fault_33 (-1 : Int32) hh1  H
    · replace H := (gm_ite H).2 c2
      refine go_aloadn dX12_fault_23 rfl ?_
      refine gm_getR fd_X12_20 dX12_fault_24 H (fun x1 H => ?_)
      refine go_iconst (v := (0 : Int32)) dX12_fault_27 rfl ?_
      refine gm_iald dX12_fault_28 H (fun x2 H => ?_)
      refine go_goto (tgt := 33) dX12_fault_29 (by decide) ?_
      refine go_mask [false, false] (loc' := [none, none]) rfl ?_
      exact okj_X12_fault_33 x2 hh1  H
  · replace H := (gm_ite H).2 c1
    refine go_aloadn dX12_fault_9 rfl ?_
    refine gm_getR fd_X12_17 dX12_fault_10 H (fun x3 H => ?_)
    refine go_iconst (v := (0 : Int32)) dX12_fault_13 rfl ?_
    refine gm_iald dX12_fault_14 H (fun x4 H => ?_)
    refine go_goto (tgt := 33) dX12_fault_15 (by decide) ?_
    refine go_mask [false, false] (loc' := [none, none]) rfl ?_
    exact okj_X12_fault_33 x4 hh1  H
/-! X9_archiveAt -/
def j_X9_archiveAt_19  (s0 : Nat) (h : Hp) : Option Nat :=
  some s0
set_option maxRecDepth 20000 in
theorem okj_X9_archiveAt_19 {r : Nat}  (s0 : Nat) (h : Hp) (H : j_X9_archiveAt_19 s0 h = some r) : Go M_X9_archiveAt (some (aA r), h) 19 [none, none] [aA s0] h := by
  unfold j_X9_archiveAt_19 at H
  obtain rfl := Option.some.inj H
  exact go_areturn dX9_archiveAt_19 ⟨_, rfl, Or.inl ⟨_, rfl⟩⟩
def m_X9_archiveAt (v0 : Nat) (v1 : Int32) (h : Hp) : Option Nat :=
  (rc h v0 9 (m_X9_isTold v0 (0 : Int32) v1 h)).bind fun x1 => if x1 = 0 then (j_X9_archiveAt_19 0 h) else (gfR h v0 9 4).bind fun x2 => (alR h x2 24 v1).bind fun x3 => j_X9_archiveAt_19 x3 h
set_option maxRecDepth 20000 in
theorem ok_X9_archiveAt {r : Nat} {v0 : Nat} {v1 : Int32} {h : Hp} (H : m_X9_archiveAt v0 v1 h = some r) : Ev M_X9_archiveAt [aA v0, aI v1] h (some (aA r), h) := by
  show Go M_X9_archiveAt (some (aA r), h) 0 [some (aA v0), some (aI v1)] [] h
  unfold m_X9_archiveAt at H
  refine go_aloadn dX9_archiveAt_0 rfl ?_
  refine go_iconst (v := (0 : Int32)) dX9_archiveAt_1 rfl ?_
  refine go_iloadn dX9_archiveAt_2 rfl ?_
  obtain ⟨c1, x1, ex1, H⟩ := gm_rc H
  refine go_callV (vs := [aI (0 : Int32), aI v1]) (stk := []) (o1 := (some (aI x1), h)) mk_X9_isTold sv_X9_archiveAt_77 cl_X9 rfl dX9_archiveAt_3 c1 rfl rfl (Nat.le_of_ble_eq_true rfl) (Nat.le_of_ble_eq_true rfl) (ok_X9_isTold ex1) (show Go M_X9_archiveAt (some (aA r), h) 6 [some (aA v0), some (aI v1)] [aI x1] h from ?_)
  refine go_if_eq (tgt := 18) dX9_archiveAt_6 (by decide) (fun c2 => ?_) (fun c2 => ?_)
  · replace H := (gm_ite H).1 c2
    refine go_null dX9_archiveAt_18 ?_
    refine go_mask [false, false] (loc' := [none, none]) rfl ?_
    exact okj_X9_archiveAt_19 0 h  H
  · replace H := (gm_ite H).2 c2
    refine go_aloadn dX9_archiveAt_9 rfl ?_
    refine gm_getR fd_X9_31 dX9_archiveAt_10 H (fun x2 H => ?_)
    refine go_iloadn dX9_archiveAt_13 rfl ?_
    refine gm_aald (by decide) dX9_archiveAt_14 H (fun x3 H => ?_)
    refine go_goto (tgt := 19) dX9_archiveAt_15 (by decide) ?_
    refine go_mask [false, false] (loc' := [none, none]) rfl ?_
    exact okj_X9_archiveAt_19 x3 h  H
/-! X0_versionsOfAll -/
def b_X0_versionsOfAll_4 (v0 : Nat) (h : Hp) (k : Int32 → Int32 → Option Int32) (v1 : Int32) (v2 : Int32) : Option Int32 :=
  (gfI h v0 1 0).bind fun x1 => if x1 ≤ v2 then (some v1) else (rc h v0 1 (m_X0_versionsOf v0 v2 h)).bind fun x2 => k (v1 + x2) (v2 + (1 : Int32))
set_option maxRecDepth 20000 in
theorem okb_X0_versionsOfAll_4 {r : Int32} (v0 : Nat) (h : Hp) (k : Int32 → Int32 → Option Int32) (v1 : Int32) (v2 : Int32) (Hk : ∀ (v1q : Int32) (v2q : Int32), k v1q v2q = some r → Go M_X0_versionsOfAll (some (aI r), h) 4 [some (aA v0), some (aI v1q), some (aI v2q)] [] h) (H : b_X0_versionsOfAll_4 v0 h k v1 v2 = some r) : Go M_X0_versionsOfAll (some (aI r), h) 4 [some (aA v0), some (aI v1), some (aI v2)] [] h := by
  unfold b_X0_versionsOfAll_4 at H
  refine go_iloadn dX0_versionsOfAll_4 rfl ?_
  refine go_aloadn dX0_versionsOfAll_5 rfl ?_
  refine gm_getI fd_X0_11 dX0_versionsOfAll_6 H (fun x1 H => ?_)
  refine go_icmp_ge (tgt := 26) dX0_versionsOfAll_9 (by decide) (fun c1 => ?_) (fun c1 => ?_)
  · replace H := (gm_ite H).1 c1
    refine go_iloadn dX0_versionsOfAll_26 rfl ?_
    obtain rfl := Option.some.inj H
    exact go_ireturn dX0_versionsOfAll_27 (tyI_int rfl)
  · replace H := (gm_ite H).2 c1
    refine go_iloadn dX0_versionsOfAll_12 rfl ?_
    refine go_aloadn dX0_versionsOfAll_13 rfl ?_
    refine go_iloadn dX0_versionsOfAll_14 rfl ?_
    obtain ⟨c2, x2, ex2, H⟩ := gm_rc H
    refine go_callV (vs := [aI v2]) (stk := [aI v1]) (o1 := (some (aI x2), h)) mk_X0_versionsOf sv_X0_versionsOfAll_76 cl_X0 rfl dX0_versionsOfAll_15 c2 rfl rfl (Nat.le_of_ble_eq_true rfl) (Nat.le_of_ble_eq_true rfl) (ok_X0_versionsOf ex2) (show Go M_X0_versionsOfAll (some (aI r), h) 18 [some (aA v0), some (aI v1), some (aI v2)] [aI x2, aI v1] h from ?_)
    refine go_iadd dX0_versionsOfAll_18 ?_
    refine go_istoren (loc2 := [some (aA v0), some (aI (v1 + x2)), some (aI v2)]) dX0_versionsOfAll_19 rfl (by decide) rfl ?_
    refine go_iinc (v := (v2 + (1 : Int32))) (loc2 := [some (aA v0), some (aI (v1 + x2)), some (aI (v2 + (1 : Int32)))]) dX0_versionsOfAll_20 rfl rfl (by decide) rfl ?_
    refine go_goto (tgt := 4) dX0_versionsOfAll_23 (by decide) ?_
    exact Hk (v1 + x2) (v2 + (1 : Int32)) H
def l_X0_versionsOfAll_4 (v0 : Nat) (h : Hp) (v1 : Int32) (v2 : Int32) : Option Int32 := loopK FUEL (fun (k : Int32 × Int32 → Option Int32) (s : Int32 × Int32) => b_X0_versionsOfAll_4 v0 h (fun v1q v2q => k (v1q, v2q)) s.1 s.2) (v1, v2)
theorem okl_X0_versionsOfAll_4 {r : Int32} (v0 : Nat) (h : Hp) (v1 : Int32) (v2 : Int32) (H : l_X0_versionsOfAll_4 v0 h v1 v2 = some r) : Go M_X0_versionsOfAll (some (aI r), h) 4 [some (aA v0), some (aI v1), some (aI v2)] [] h := by
  unfold l_X0_versionsOfAll_4 at H
  exact go_loop (σ := Int32 × Int32) (body := (fun (k : Int32 × Int32 → Option Int32) (s : Int32 × Int32) => b_X0_versionsOfAll_4 v0 h (fun v1q v2q => k (v1q, v2q)) s.1 s.2)) (fun s => [some (aA v0), some (aI s.1), some (aI s.2)]) (fun s => h) (fun k s Hk H => okb_X0_versionsOfAll_4 v0 h (fun v1q v2q => k (v1q, v2q)) s.1 s.2  (fun v1q v2q H => Hk (v1q, v2q) H) H) FUEL (v1, v2) H
def m_X0_versionsOfAll (v0 : Nat) (h : Hp) : Option Int32 :=
  l_X0_versionsOfAll_4 v0 h (0 : Int32) (0 : Int32)
set_option maxRecDepth 20000 in
theorem ok_X0_versionsOfAll {r : Int32} {v0 : Nat} {h : Hp} (H : m_X0_versionsOfAll v0 h = some r) : Ev M_X0_versionsOfAll [aA v0] h (some (aI r), h) := by
  show Go M_X0_versionsOfAll (some (aI r), h) 0 [some (aA v0), none, none] [] h
  unfold m_X0_versionsOfAll at H
  refine go_iconst (v := (0 : Int32)) dX0_versionsOfAll_0 rfl ?_
  refine go_istoren (loc2 := [some (aA v0), some (aI (0 : Int32)), none]) dX0_versionsOfAll_1 rfl (by decide) rfl ?_
  refine go_iconst (v := (0 : Int32)) dX0_versionsOfAll_2 rfl ?_
  refine go_istoren (loc2 := [some (aA v0), some (aI (0 : Int32)), some (aI (0 : Int32))]) dX0_versionsOfAll_3 rfl (by decide) rfl ?_
  exact okl_X0_versionsOfAll_4 v0 h (0 : Int32) (0 : Int32) H
/-! X2_size -/
def b_X2_size_15 (v1 : Nat) (v3 : Int32) (h : Hp) (K41 : Int32 → Option Int32) (k : Int32 → Int32 → Option Int32) (v2 : Int32) (v4 : Int32) : Option Int32 :=
  (rc h v1 1 (m_X0_versionsOf v1 v3 h)).bind fun x1 => if x1 ≤ v4 then K41 v2 else (rc h v1 1 (m_X0_lengthOf v1 v3 v4 h)).bind fun x2 => k (v2 + x2) (v4 + (1 : Int32))
set_option maxRecDepth 20000 in
theorem okb_X2_size_15 {r : Int32} (v1 : Nat) (v3 : Int32) (h : Hp) (K41 : Int32 → Option Int32) (k : Int32 → Int32 → Option Int32) (v2 : Int32) (v4 : Int32) (HK41 : ∀ (v2q : Int32) , K41 v2q = some r → Go M_X2_size (some (aI r), h) 41 [none, some (aA v1), some (aI v2q), some (aI v3), none] [] h) (Hk : ∀ (v2q : Int32) (v4q : Int32), k v2q v4q = some r → Go M_X2_size (some (aI r), h) 15 [none, some (aA v1), some (aI v2q), some (aI v3), some (aI v4q)] [] h) (H : b_X2_size_15 v1 v3 h K41 k v2 v4 = some r) : Go M_X2_size (some (aI r), h) 15 [none, some (aA v1), some (aI v2), some (aI v3), some (aI v4)] [] h := by
  unfold b_X2_size_15 at H
  refine go_iload dX2_size_15 rfl ?_
  refine go_aloadn dX2_size_17 rfl ?_
  refine go_iloadn dX2_size_18 rfl ?_
  obtain ⟨c1, x1, ex1, H⟩ := gm_rc H
  refine go_callV (vs := [aI v3]) (stk := [aI v4]) (o1 := (some (aI x1), h)) mk_X0_versionsOf sv_X2_size_21 cl_X0 rfl dX2_size_19 c1 rfl rfl (Nat.le_of_ble_eq_true rfl) (Nat.le_of_ble_eq_true rfl) (ok_X0_versionsOf ex1) (show Go M_X2_size (some (aI r), h) 22 [none, some (aA v1), some (aI v2), some (aI v3), some (aI v4)] [aI x1, aI v4] h from ?_)
  refine go_icmp_ge (tgt := 41) dX2_size_22 (by decide) (fun c2 => ?_) (fun c2 => ?_)
  · replace H := (gm_ite H).1 c2
    refine go_mask [false, true, true, true, false] (loc' := [none, some (aA v1), some (aI v2), some (aI v3), none]) rfl ?_
    exact HK41 v2 H
  · replace H := (gm_ite H).2 c2
    refine go_iloadn dX2_size_25 rfl ?_
    refine go_aloadn dX2_size_26 rfl ?_
    refine go_iloadn dX2_size_27 rfl ?_
    refine go_iload dX2_size_28 rfl ?_
    obtain ⟨c3, x2, ex2, H⟩ := gm_rc H
    refine go_callV (vs := [aI v3, aI v4]) (stk := [aI v2]) (o1 := (some (aI x2), h)) mk_X0_lengthOf sv_X2_size_25 cl_X0 rfl dX2_size_30 c3 rfl rfl (Nat.le_of_ble_eq_true rfl) (Nat.le_of_ble_eq_true rfl) (ok_X0_lengthOf ex2) (show Go M_X2_size (some (aI r), h) 33 [none, some (aA v1), some (aI v2), some (aI v3), some (aI v4)] [aI x2, aI v2] h from ?_)
    refine go_iadd dX2_size_33 ?_
    refine go_istoren (loc2 := [none, some (aA v1), some (aI (v2 + x2)), some (aI v3), some (aI v4)]) dX2_size_34 rfl (by decide) rfl ?_
    refine go_iinc (v := (v4 + (1 : Int32))) (loc2 := [none, some (aA v1), some (aI (v2 + x2)), some (aI v3), some (aI (v4 + (1 : Int32)))]) dX2_size_35 rfl rfl (by decide) rfl ?_
    refine go_goto (tgt := 15) dX2_size_38 (by decide) ?_
    exact Hk (v2 + x2) (v4 + (1 : Int32)) H
def l_X2_size_15 (v1 : Nat) (v3 : Int32) (h : Hp) (K41 : Int32 → Option Int32) (v2 : Int32) (v4 : Int32) : Option Int32 := loopK FUEL (fun (k : Int32 × Int32 → Option Int32) (s : Int32 × Int32) => b_X2_size_15 v1 v3 h K41 (fun v2q v4q => k (v2q, v4q)) s.1 s.2) (v2, v4)
theorem okl_X2_size_15 {r : Int32} (v1 : Nat) (v3 : Int32) (h : Hp) (K41 : Int32 → Option Int32) (v2 : Int32) (v4 : Int32) (HK41 : ∀ (v2q : Int32) , K41 v2q = some r → Go M_X2_size (some (aI r), h) 41 [none, some (aA v1), some (aI v2q), some (aI v3), none] [] h) (H : l_X2_size_15 v1 v3 h K41 v2 v4 = some r) : Go M_X2_size (some (aI r), h) 15 [none, some (aA v1), some (aI v2), some (aI v3), some (aI v4)] [] h := by
  unfold l_X2_size_15 at H
  exact go_loop (σ := Int32 × Int32) (body := (fun (k : Int32 × Int32 → Option Int32) (s : Int32 × Int32) => b_X2_size_15 v1 v3 h K41 (fun v2q v4q => k (v2q, v4q)) s.1 s.2)) (fun s => [none, some (aA v1), some (aI s.1), some (aI v3), some (aI s.2)]) (fun s => h) (fun k s Hk H => okb_X2_size_15 v1 v3 h K41 (fun v2q v4q => k (v2q, v4q)) s.1 s.2 HK41 (fun v2q v4q H => Hk (v2q, v4q) H) H) FUEL (v2, v4) H
def j_X2_size_41 (v1 : Nat) (v2 : Int32) (v3 : Int32)  (h : Hp) (k : Int32 → Int32 → Option Int32) : Option Int32 :=
  k v2 (v3 + (1 : Int32))
set_option maxRecDepth 20000 in
theorem okj_X2_size_41 {r : Int32} (v1 : Nat) (v2 : Int32) (v3 : Int32)  (h : Hp) (k : Int32 → Int32 → Option Int32) (Hk : ∀ (v2q : Int32) (v3q : Int32), k v2q v3q = some r → Go M_X2_size (some (aI r), h) 4 [none, some (aA v1), some (aI v2q), some (aI v3q), none] [] h) (H : j_X2_size_41 v1 v2 v3 h k = some r) : Go M_X2_size (some (aI r), h) 41 [none, some (aA v1), some (aI v2), some (aI v3), none] [] h := by
  unfold j_X2_size_41 at H
  refine go_iinc (v := (v3 + (1 : Int32))) (loc2 := [none, some (aA v1), some (aI v2), some (aI (v3 + (1 : Int32))), none]) dX2_size_41 rfl rfl (by decide) rfl ?_
  refine go_goto (tgt := 4) dX2_size_44 (by decide) ?_
  exact Hk v2 (v3 + (1 : Int32)) H
def b_X2_size_4 (v1 : Nat) (h : Hp) (k : Int32 → Int32 → Option Int32) (v2 : Int32) (v3 : Int32) : Option Int32 :=
  (gfI h v1 1 0).bind fun x1 => if x1 ≤ v3 then (some v2) else l_X2_size_15 v1 v3 h (fun a2_2 => j_X2_size_41 v1 a2_2 v3 h k) v2 (0 : Int32)
set_option maxRecDepth 20000 in
theorem okb_X2_size_4 {r : Int32} (v1 : Nat) (h : Hp) (k : Int32 → Int32 → Option Int32) (v2 : Int32) (v3 : Int32) (Hk : ∀ (v2q : Int32) (v3q : Int32), k v2q v3q = some r → Go M_X2_size (some (aI r), h) 4 [none, some (aA v1), some (aI v2q), some (aI v3q), none] [] h) (H : b_X2_size_4 v1 h k v2 v3 = some r) : Go M_X2_size (some (aI r), h) 4 [none, some (aA v1), some (aI v2), some (aI v3), none] [] h := by
  unfold b_X2_size_4 at H
  refine go_iloadn dX2_size_4 rfl ?_
  refine go_aloadn dX2_size_5 rfl ?_
  refine gm_getI fd_X2_17 dX2_size_6 H (fun x1 H => ?_)
  refine go_icmp_ge (tgt := 47) dX2_size_9 (by decide) (fun c1 => ?_) (fun c1 => ?_)
  · replace H := (gm_ite H).1 c1
    refine go_iloadn dX2_size_47 rfl ?_
    obtain rfl := Option.some.inj H
    exact go_ireturn dX2_size_48 (tyI_int rfl)
  · replace H := (gm_ite H).2 c1
    refine go_iconst (v := (0 : Int32)) dX2_size_12 rfl ?_
    refine go_istore (loc2 := [none, some (aA v1), some (aI v2), some (aI v3), some (aI (0 : Int32))]) dX2_size_13 (by decide) rfl ?_
    refine okl_X2_size_15 v1 v3 h (fun a2_2 => j_X2_size_41 v1 a2_2 v3 h k) v2 (0 : Int32) ?_ H
    · intro a2_2 H
      exact okj_X2_size_41 v1 a2_2 v3 h k Hk H
def l_X2_size_4 (v1 : Nat) (h : Hp) (v2 : Int32) (v3 : Int32) : Option Int32 := loopK FUEL (fun (k : Int32 × Int32 → Option Int32) (s : Int32 × Int32) => b_X2_size_4 v1 h (fun v2q v3q => k (v2q, v3q)) s.1 s.2) (v2, v3)
theorem okl_X2_size_4 {r : Int32} (v1 : Nat) (h : Hp) (v2 : Int32) (v3 : Int32) (H : l_X2_size_4 v1 h v2 v3 = some r) : Go M_X2_size (some (aI r), h) 4 [none, some (aA v1), some (aI v2), some (aI v3), none] [] h := by
  unfold l_X2_size_4 at H
  exact go_loop (σ := Int32 × Int32) (body := (fun (k : Int32 × Int32 → Option Int32) (s : Int32 × Int32) => b_X2_size_4 v1 h (fun v2q v3q => k (v2q, v3q)) s.1 s.2)) (fun s => [none, some (aA v1), some (aI s.1), some (aI s.2), none]) (fun s => h) (fun k s Hk H => okb_X2_size_4 v1 h (fun v2q v3q => k (v2q, v3q)) s.1 s.2  (fun v2q v3q H => Hk (v2q, v3q) H) H) FUEL (v2, v3) H
def m_X2_size (v0 : Nat) (v1 : Nat) (h : Hp) : Option Int32 :=
  l_X2_size_4 v1 h (0 : Int32) (0 : Int32)
set_option maxRecDepth 20000 in
theorem ok_X2_size {r : Int32} {v0 : Nat} {v1 : Nat} {h : Hp} (H : m_X2_size v0 v1 h = some r) : Ev M_X2_size [aA v0, aA v1] h (some (aI r), h) := by
  show Go M_X2_size (some (aI r), h) 0 [some (aA v0), some (aA v1), none, none, none] [] h
  unfold m_X2_size at H
  refine go_iconst (v := (0 : Int32)) dX2_size_0 rfl ?_
  refine go_istoren (loc2 := [some (aA v0), some (aA v1), some (aI (0 : Int32)), none, none]) dX2_size_1 rfl (by decide) rfl ?_
  refine go_iconst (v := (0 : Int32)) dX2_size_2 rfl ?_
  refine go_istoren (loc2 := [some (aA v0), some (aA v1), some (aI (0 : Int32)), some (aI (0 : Int32)), none]) dX2_size_3 rfl (by decide) rfl ?_
  refine go_mask [false, true, true, true, false] (loc' := [none, some (aA v1), some (aI (0 : Int32)), some (aI (0 : Int32)), none]) rfl ?_
  exact okl_X2_size_4 v1 h (0 : Int32) (0 : Int32) H
/-! J6_bitCount_0f7a4 -/
def m_J6_bitCount_0f7a4 (v0 : Int32) (h : Hp) : Option Int32 :=
  some ((((((((v0 - ((iushrF v0 (1 : Int32)) &&& (1431655765 : Int32))) &&& (858993459 : Int32)) + ((iushrF (v0 - ((iushrF v0 (1 : Int32)) &&& (1431655765 : Int32))) (2 : Int32)) &&& (858993459 : Int32))) + (iushrF (((v0 - ((iushrF v0 (1 : Int32)) &&& (1431655765 : Int32))) &&& (858993459 : Int32)) + ((iushrF (v0 - ((iushrF v0 (1 : Int32)) &&& (1431655765 : Int32))) (2 : Int32)) &&& (858993459 : Int32))) (4 : Int32))) &&& (252645135 : Int32)) + (iushrF (((((v0 - ((iushrF v0 (1 : Int32)) &&& (1431655765 : Int32))) &&& (858993459 : Int32)) + ((iushrF (v0 - ((iushrF v0 (1 : Int32)) &&& (1431655765 : Int32))) (2 : Int32)) &&& (858993459 : Int32))) + (iushrF (((v0 - ((iushrF v0 (1 : Int32)) &&& (1431655765 : Int32))) &&& (858993459 : Int32)) + ((iushrF (v0 - ((iushrF v0 (1 : Int32)) &&& (1431655765 : Int32))) (2 : Int32)) &&& (858993459 : Int32))) (4 : Int32))) &&& (252645135 : Int32)) (8 : Int32))) + (iushrF ((((((v0 - ((iushrF v0 (1 : Int32)) &&& (1431655765 : Int32))) &&& (858993459 : Int32)) + ((iushrF (v0 - ((iushrF v0 (1 : Int32)) &&& (1431655765 : Int32))) (2 : Int32)) &&& (858993459 : Int32))) + (iushrF (((v0 - ((iushrF v0 (1 : Int32)) &&& (1431655765 : Int32))) &&& (858993459 : Int32)) + ((iushrF (v0 - ((iushrF v0 (1 : Int32)) &&& (1431655765 : Int32))) (2 : Int32)) &&& (858993459 : Int32))) (4 : Int32))) &&& (252645135 : Int32)) + (iushrF (((((v0 - ((iushrF v0 (1 : Int32)) &&& (1431655765 : Int32))) &&& (858993459 : Int32)) + ((iushrF (v0 - ((iushrF v0 (1 : Int32)) &&& (1431655765 : Int32))) (2 : Int32)) &&& (858993459 : Int32))) + (iushrF (((v0 - ((iushrF v0 (1 : Int32)) &&& (1431655765 : Int32))) &&& (858993459 : Int32)) + ((iushrF (v0 - ((iushrF v0 (1 : Int32)) &&& (1431655765 : Int32))) (2 : Int32)) &&& (858993459 : Int32))) (4 : Int32))) &&& (252645135 : Int32)) (8 : Int32))) (16 : Int32))) &&& (63 : Int32))
set_option maxRecDepth 20000 in
theorem ok_J6_bitCount_0f7a4 {r : Int32} {v0 : Int32} {h : Hp} (H : m_J6_bitCount_0f7a4 v0 h = some r) : Ev M_J6_bitCount_0f7a4 [aI v0] h (some (aI r), h) := by
  show Go M_J6_bitCount_0f7a4 (some (aI r), h) 0 [some (aI v0)] [] h
  unfold m_J6_bitCount_0f7a4 at H
  refine go_iloadn dJ6_bitCount_0f7a4_0 rfl ?_
  refine go_iloadn dJ6_bitCount_0f7a4_1 rfl ?_
  refine go_iconst (v := (1 : Int32)) dJ6_bitCount_0f7a4_2 rfl ?_
  refine go_iushr dJ6_bitCount_0f7a4_3 ?_
  refine go_ldcw (v := (1431655765 : Int32)) tw882 dJ6_bitCount_0f7a4_4 ?_
  refine go_iand dJ6_bitCount_0f7a4_7 ?_
  refine go_isub dJ6_bitCount_0f7a4_8 ?_
  refine go_istoren (loc2 := [some (aI (v0 - ((iushrF v0 (1 : Int32)) &&& (1431655765 : Int32))))]) dJ6_bitCount_0f7a4_9 rfl (by decide) rfl ?_
  refine go_iloadn dJ6_bitCount_0f7a4_10 rfl ?_
  refine go_ldcw (v := (858993459 : Int32)) tw883 dJ6_bitCount_0f7a4_11 ?_
  refine go_iand dJ6_bitCount_0f7a4_14 ?_
  refine go_iloadn dJ6_bitCount_0f7a4_15 rfl ?_
  refine go_iconst (v := (2 : Int32)) dJ6_bitCount_0f7a4_16 rfl ?_
  refine go_iushr dJ6_bitCount_0f7a4_17 ?_
  refine go_ldcw (v := (858993459 : Int32)) tw883 dJ6_bitCount_0f7a4_18 ?_
  refine go_iand dJ6_bitCount_0f7a4_21 ?_
  refine go_iadd dJ6_bitCount_0f7a4_22 ?_
  refine go_istoren (loc2 := [some (aI (((v0 - ((iushrF v0 (1 : Int32)) &&& (1431655765 : Int32))) &&& (858993459 : Int32)) + ((iushrF (v0 - ((iushrF v0 (1 : Int32)) &&& (1431655765 : Int32))) (2 : Int32)) &&& (858993459 : Int32))))]) dJ6_bitCount_0f7a4_23 rfl (by decide) rfl ?_
  refine go_iloadn dJ6_bitCount_0f7a4_24 rfl ?_
  refine go_iloadn dJ6_bitCount_0f7a4_25 rfl ?_
  refine go_iconst (v := (4 : Int32)) dJ6_bitCount_0f7a4_26 rfl ?_
  refine go_iushr dJ6_bitCount_0f7a4_27 ?_
  refine go_iadd dJ6_bitCount_0f7a4_28 ?_
  refine go_ldcw (v := (252645135 : Int32)) tw884 dJ6_bitCount_0f7a4_29 ?_
  refine go_iand dJ6_bitCount_0f7a4_32 ?_
  refine go_istoren (loc2 := [some (aI (((((v0 - ((iushrF v0 (1 : Int32)) &&& (1431655765 : Int32))) &&& (858993459 : Int32)) + ((iushrF (v0 - ((iushrF v0 (1 : Int32)) &&& (1431655765 : Int32))) (2 : Int32)) &&& (858993459 : Int32))) + (iushrF (((v0 - ((iushrF v0 (1 : Int32)) &&& (1431655765 : Int32))) &&& (858993459 : Int32)) + ((iushrF (v0 - ((iushrF v0 (1 : Int32)) &&& (1431655765 : Int32))) (2 : Int32)) &&& (858993459 : Int32))) (4 : Int32))) &&& (252645135 : Int32)))]) dJ6_bitCount_0f7a4_33 rfl (by decide) rfl ?_
  refine go_iloadn dJ6_bitCount_0f7a4_34 rfl ?_
  refine go_iloadn dJ6_bitCount_0f7a4_35 rfl ?_
  refine go_bipush (v := (8 : Int32)) dJ6_bitCount_0f7a4_36 rfl ?_
  refine go_iushr dJ6_bitCount_0f7a4_38 ?_
  refine go_iadd dJ6_bitCount_0f7a4_39 ?_
  refine go_istoren (loc2 := [some (aI ((((((v0 - ((iushrF v0 (1 : Int32)) &&& (1431655765 : Int32))) &&& (858993459 : Int32)) + ((iushrF (v0 - ((iushrF v0 (1 : Int32)) &&& (1431655765 : Int32))) (2 : Int32)) &&& (858993459 : Int32))) + (iushrF (((v0 - ((iushrF v0 (1 : Int32)) &&& (1431655765 : Int32))) &&& (858993459 : Int32)) + ((iushrF (v0 - ((iushrF v0 (1 : Int32)) &&& (1431655765 : Int32))) (2 : Int32)) &&& (858993459 : Int32))) (4 : Int32))) &&& (252645135 : Int32)) + (iushrF (((((v0 - ((iushrF v0 (1 : Int32)) &&& (1431655765 : Int32))) &&& (858993459 : Int32)) + ((iushrF (v0 - ((iushrF v0 (1 : Int32)) &&& (1431655765 : Int32))) (2 : Int32)) &&& (858993459 : Int32))) + (iushrF (((v0 - ((iushrF v0 (1 : Int32)) &&& (1431655765 : Int32))) &&& (858993459 : Int32)) + ((iushrF (v0 - ((iushrF v0 (1 : Int32)) &&& (1431655765 : Int32))) (2 : Int32)) &&& (858993459 : Int32))) (4 : Int32))) &&& (252645135 : Int32)) (8 : Int32))))]) dJ6_bitCount_0f7a4_40 rfl (by decide) rfl ?_
  refine go_iloadn dJ6_bitCount_0f7a4_41 rfl ?_
  refine go_iloadn dJ6_bitCount_0f7a4_42 rfl ?_
  refine go_bipush (v := (16 : Int32)) dJ6_bitCount_0f7a4_43 rfl ?_
  refine go_iushr dJ6_bitCount_0f7a4_45 ?_
  refine go_iadd dJ6_bitCount_0f7a4_46 ?_
  refine go_istoren (loc2 := [some (aI (((((((v0 - ((iushrF v0 (1 : Int32)) &&& (1431655765 : Int32))) &&& (858993459 : Int32)) + ((iushrF (v0 - ((iushrF v0 (1 : Int32)) &&& (1431655765 : Int32))) (2 : Int32)) &&& (858993459 : Int32))) + (iushrF (((v0 - ((iushrF v0 (1 : Int32)) &&& (1431655765 : Int32))) &&& (858993459 : Int32)) + ((iushrF (v0 - ((iushrF v0 (1 : Int32)) &&& (1431655765 : Int32))) (2 : Int32)) &&& (858993459 : Int32))) (4 : Int32))) &&& (252645135 : Int32)) + (iushrF (((((v0 - ((iushrF v0 (1 : Int32)) &&& (1431655765 : Int32))) &&& (858993459 : Int32)) + ((iushrF (v0 - ((iushrF v0 (1 : Int32)) &&& (1431655765 : Int32))) (2 : Int32)) &&& (858993459 : Int32))) + (iushrF (((v0 - ((iushrF v0 (1 : Int32)) &&& (1431655765 : Int32))) &&& (858993459 : Int32)) + ((iushrF (v0 - ((iushrF v0 (1 : Int32)) &&& (1431655765 : Int32))) (2 : Int32)) &&& (858993459 : Int32))) (4 : Int32))) &&& (252645135 : Int32)) (8 : Int32))) + (iushrF ((((((v0 - ((iushrF v0 (1 : Int32)) &&& (1431655765 : Int32))) &&& (858993459 : Int32)) + ((iushrF (v0 - ((iushrF v0 (1 : Int32)) &&& (1431655765 : Int32))) (2 : Int32)) &&& (858993459 : Int32))) + (iushrF (((v0 - ((iushrF v0 (1 : Int32)) &&& (1431655765 : Int32))) &&& (858993459 : Int32)) + ((iushrF (v0 - ((iushrF v0 (1 : Int32)) &&& (1431655765 : Int32))) (2 : Int32)) &&& (858993459 : Int32))) (4 : Int32))) &&& (252645135 : Int32)) + (iushrF (((((v0 - ((iushrF v0 (1 : Int32)) &&& (1431655765 : Int32))) &&& (858993459 : Int32)) + ((iushrF (v0 - ((iushrF v0 (1 : Int32)) &&& (1431655765 : Int32))) (2 : Int32)) &&& (858993459 : Int32))) + (iushrF (((v0 - ((iushrF v0 (1 : Int32)) &&& (1431655765 : Int32))) &&& (858993459 : Int32)) + ((iushrF (v0 - ((iushrF v0 (1 : Int32)) &&& (1431655765 : Int32))) (2 : Int32)) &&& (858993459 : Int32))) (4 : Int32))) &&& (252645135 : Int32)) (8 : Int32))) (16 : Int32))))]) dJ6_bitCount_0f7a4_47 rfl (by decide) rfl ?_
  refine go_iloadn dJ6_bitCount_0f7a4_48 rfl ?_
  refine go_bipush (v := (63 : Int32)) dJ6_bitCount_0f7a4_49 rfl ?_
  refine go_iand dJ6_bitCount_0f7a4_51 ?_
  obtain rfl := Option.some.inj H
  exact go_ireturn dJ6_bitCount_0f7a4_52 (tyI_int rfl)
/-! X5_runs -/
def m_X5_runs (v0 : Int32) (h : Hp) : Option Int32 :=
  (m_J6_bitCount_0f7a4 (v0 &&& ((ishlF v0 (1 : Int32)) ^^^ (-1 : Int32))) h).bind fun x1 => some x1
set_option maxRecDepth 20000 in
theorem ok_X5_runs {r : Int32} {v0 : Int32} {h : Hp} (H : m_X5_runs v0 h = some r) : Ev M_X5_runs [aI v0] h (some (aI r), h) := by
  show Go M_X5_runs (some (aI r), h) 0 [some (aI v0)] [] h
  unfold m_X5_runs at H
  refine go_iloadn dX5_runs_0 rfl ?_
  refine go_iloadn dX5_runs_1 rfl ?_
  refine go_iconst (v := (1 : Int32)) dX5_runs_2 rfl ?_
  refine go_ishl dX5_runs_3 ?_
  refine go_iconst (v := (-1 : Int32)) dX5_runs_4 rfl ?_
  refine go_ixor dX5_runs_5 ?_
  refine go_iand dX5_runs_6 ?_
  obtain ⟨x1, ex1, H⟩ := bind_some H
  refine go_callS (vs := [aI (v0 &&& ((ishlF v0 (1 : Int32)) ^^^ (-1 : Int32)))]) (stk := []) (o1 := (some (aI x1), h)) mk_J6_bitCount_0f7a4 ss_X5_runs_23 dX5_runs_7 rfl rfl (Nat.le_of_ble_eq_true rfl) (Nat.le_of_ble_eq_true rfl) (ok_J6_bitCount_0f7a4 ex1) (show Go M_X5_runs (some (aI r), h) 10 [some (aI v0)] [aI x1] h from ?_)
  obtain rfl := Option.some.inj H
  exact go_ireturn dX5_runs_10 (tyI_int rfl)
/-! X2_postings -/
def b_X2_postings_4 (v1 : Nat) (h : Hp) (k : Int32 → Int32 → Option Int32) (v2 : Int32) (v3 : Int32) : Option Int32 :=
  (gfI h v1 1 1).bind fun x1 => if x1 ≤ v3 then (some v2) else (rc h v1 1 (m_X0_stayOf v1 v3 h)).bind fun x2 => (m_X5_runs x2 h).bind fun x3 => k (v2 + x3) (v3 + (1 : Int32))
set_option maxRecDepth 20000 in
theorem okb_X2_postings_4 {r : Int32} (v1 : Nat) (h : Hp) (k : Int32 → Int32 → Option Int32) (v2 : Int32) (v3 : Int32) (Hk : ∀ (v2q : Int32) (v3q : Int32), k v2q v3q = some r → Go M_X2_postings (some (aI r), h) 4 [none, some (aA v1), some (aI v2q), some (aI v3q)] [] h) (H : b_X2_postings_4 v1 h k v2 v3 = some r) : Go M_X2_postings (some (aI r), h) 4 [none, some (aA v1), some (aI v2), some (aI v3)] [] h := by
  unfold b_X2_postings_4 at H
  refine go_iloadn dX2_postings_4 rfl ?_
  refine go_aloadn dX2_postings_5 rfl ?_
  refine gm_getI fd_X2_29 dX2_postings_6 H (fun x1 H => ?_)
  refine go_icmp_ge (tgt := 29) dX2_postings_9 (by decide) (fun c1 => ?_) (fun c1 => ?_)
  · replace H := (gm_ite H).1 c1
    refine go_iloadn dX2_postings_29 rfl ?_
    obtain rfl := Option.some.inj H
    exact go_ireturn dX2_postings_30 (tyI_int rfl)
  · replace H := (gm_ite H).2 c1
    refine go_iloadn dX2_postings_12 rfl ?_
    refine go_aloadn dX2_postings_13 rfl ?_
    refine go_iloadn dX2_postings_14 rfl ?_
    obtain ⟨c2, x2, ex2, H⟩ := gm_rc H
    refine go_callV (vs := [aI v3]) (stk := [aI v2]) (o1 := (some (aI x2), h)) mk_X0_stayOf sv_X2_postings_32 cl_X0 rfl dX2_postings_15 c2 rfl rfl (Nat.le_of_ble_eq_true rfl) (Nat.le_of_ble_eq_true rfl) (ok_X0_stayOf ex2) (show Go M_X2_postings (some (aI r), h) 18 [none, some (aA v1), some (aI v2), some (aI v3)] [aI x2, aI v2] h from ?_)
    obtain ⟨x3, ex3, H⟩ := bind_some H
    refine go_callS (vs := [aI x2]) (stk := [aI v2]) (o1 := (some (aI x3), h)) mk_X5_runs ss_X2_postings_35 dX2_postings_18 rfl rfl (Nat.le_of_ble_eq_true rfl) (Nat.le_of_ble_eq_true rfl) (ok_X5_runs ex3) (show Go M_X2_postings (some (aI r), h) 21 [none, some (aA v1), some (aI v2), some (aI v3)] [aI x3, aI v2] h from ?_)
    refine go_iadd dX2_postings_21 ?_
    refine go_istoren (loc2 := [none, some (aA v1), some (aI (v2 + x3)), some (aI v3)]) dX2_postings_22 rfl (by decide) rfl ?_
    refine go_iinc (v := (v3 + (1 : Int32))) (loc2 := [none, some (aA v1), some (aI (v2 + x3)), some (aI (v3 + (1 : Int32)))]) dX2_postings_23 rfl rfl (by decide) rfl ?_
    refine go_goto (tgt := 4) dX2_postings_26 (by decide) ?_
    exact Hk (v2 + x3) (v3 + (1 : Int32)) H
def l_X2_postings_4 (v1 : Nat) (h : Hp) (v2 : Int32) (v3 : Int32) : Option Int32 := loopK FUEL (fun (k : Int32 × Int32 → Option Int32) (s : Int32 × Int32) => b_X2_postings_4 v1 h (fun v2q v3q => k (v2q, v3q)) s.1 s.2) (v2, v3)
theorem okl_X2_postings_4 {r : Int32} (v1 : Nat) (h : Hp) (v2 : Int32) (v3 : Int32) (H : l_X2_postings_4 v1 h v2 v3 = some r) : Go M_X2_postings (some (aI r), h) 4 [none, some (aA v1), some (aI v2), some (aI v3)] [] h := by
  unfold l_X2_postings_4 at H
  exact go_loop (σ := Int32 × Int32) (body := (fun (k : Int32 × Int32 → Option Int32) (s : Int32 × Int32) => b_X2_postings_4 v1 h (fun v2q v3q => k (v2q, v3q)) s.1 s.2)) (fun s => [none, some (aA v1), some (aI s.1), some (aI s.2)]) (fun s => h) (fun k s Hk H => okb_X2_postings_4 v1 h (fun v2q v3q => k (v2q, v3q)) s.1 s.2  (fun v2q v3q H => Hk (v2q, v3q) H) H) FUEL (v2, v3) H
def m_X2_postings (v0 : Nat) (v1 : Nat) (h : Hp) : Option Int32 :=
  l_X2_postings_4 v1 h (0 : Int32) (0 : Int32)
set_option maxRecDepth 20000 in
theorem ok_X2_postings {r : Int32} {v0 : Nat} {v1 : Nat} {h : Hp} (H : m_X2_postings v0 v1 h = some r) : Ev M_X2_postings [aA v0, aA v1] h (some (aI r), h) := by
  show Go M_X2_postings (some (aI r), h) 0 [some (aA v0), some (aA v1), none, none] [] h
  unfold m_X2_postings at H
  refine go_iconst (v := (0 : Int32)) dX2_postings_0 rfl ?_
  refine go_istoren (loc2 := [some (aA v0), some (aA v1), some (aI (0 : Int32)), none]) dX2_postings_1 rfl (by decide) rfl ?_
  refine go_iconst (v := (0 : Int32)) dX2_postings_2 rfl ?_
  refine go_istoren (loc2 := [some (aA v0), some (aA v1), some (aI (0 : Int32)), some (aI (0 : Int32))]) dX2_postings_3 rfl (by decide) rfl ?_
  refine go_mask [false, true, true, true] (loc' := [none, some (aA v1), some (aI (0 : Int32)), some (aI (0 : Int32))]) rfl ?_
  exact okl_X2_postings_4 v1 h (0 : Int32) (0 : Int32) H
/-! X2_longestDocument -/
def j_X2_longestDocument_32 (v1 : Nat) (v2 : Int32) (v3 : Int32)  (h : Hp) (k : Int32 → Int32 → Option Int32) : Option Int32 :=
  k v2 (v3 + (1 : Int32))
set_option maxRecDepth 20000 in
theorem okj_X2_longestDocument_32 {r : Int32} (v1 : Nat) (v2 : Int32) (v3 : Int32)  (h : Hp) (k : Int32 → Int32 → Option Int32) (Hk : ∀ (v2q : Int32) (v3q : Int32), k v2q v3q = some r → Go M_X2_longestDocument (some (aI r), h) 4 [none, some (aA v1), some (aI v2q), some (aI v3q)] [] h) (H : j_X2_longestDocument_32 v1 v2 v3 h k = some r) : Go M_X2_longestDocument (some (aI r), h) 32 [none, some (aA v1), some (aI v2), some (aI v3)] [] h := by
  unfold j_X2_longestDocument_32 at H
  refine go_iinc (v := (v3 + (1 : Int32))) (loc2 := [none, some (aA v1), some (aI v2), some (aI (v3 + (1 : Int32)))]) dX2_longestDocument_32 rfl rfl (by decide) rfl ?_
  refine go_goto (tgt := 4) dX2_longestDocument_35 (by decide) ?_
  exact Hk v2 (v3 + (1 : Int32)) H
def j_X2_longestDocument_30 (v1 : Nat) (v3 : Int32)  (h : Hp) (k : Int32 → Int32 → Option Int32) : Option Int32 :=
  j_X2_longestDocument_32 v1 v3 v3 h k
set_option maxRecDepth 20000 in
theorem okj_X2_longestDocument_30 {r : Int32} (v1 : Nat) (v3 : Int32)  (h : Hp) (k : Int32 → Int32 → Option Int32) (Hk : ∀ (v2q : Int32) (v3q : Int32), k v2q v3q = some r → Go M_X2_longestDocument (some (aI r), h) 4 [none, some (aA v1), some (aI v2q), some (aI v3q)] [] h) (H : j_X2_longestDocument_30 v1 v3 h k = some r) : Go M_X2_longestDocument (some (aI r), h) 30 [none, some (aA v1), none, some (aI v3)] [] h := by
  unfold j_X2_longestDocument_30 at H
  refine go_iloadn dX2_longestDocument_30 rfl ?_
  refine go_istoren (loc2 := [none, some (aA v1), some (aI v3), some (aI v3)]) dX2_longestDocument_31 rfl (by decide) rfl ?_
  exact okj_X2_longestDocument_32 v1 v3 v3 h k Hk H
def b_X2_longestDocument_4 (v1 : Nat) (h : Hp) (k : Int32 → Int32 → Option Int32) (v2 : Int32) (v3 : Int32) : Option Int32 :=
  (gfI h v1 1 0).bind fun x1 => if x1 ≤ v3 then (some v2) else if v2 = (-1 : Int32) then j_X2_longestDocument_30 v1 v3 h k else (rc h v1 1 (m_X0_latestLength v1 v3 h)).bind fun x2 => (rc h v1 1 (m_X0_latestLength v1 v2 h)).bind fun x3 => if x2 ≤ x3 then j_X2_longestDocument_32 v1 v2 v3 h k else j_X2_longestDocument_30 v1 v3 h k
set_option maxRecDepth 20000 in
theorem okb_X2_longestDocument_4 {r : Int32} (v1 : Nat) (h : Hp) (k : Int32 → Int32 → Option Int32) (v2 : Int32) (v3 : Int32) (Hk : ∀ (v2q : Int32) (v3q : Int32), k v2q v3q = some r → Go M_X2_longestDocument (some (aI r), h) 4 [none, some (aA v1), some (aI v2q), some (aI v3q)] [] h) (H : b_X2_longestDocument_4 v1 h k v2 v3 = some r) : Go M_X2_longestDocument (some (aI r), h) 4 [none, some (aA v1), some (aI v2), some (aI v3)] [] h := by
  unfold b_X2_longestDocument_4 at H
  refine go_iloadn dX2_longestDocument_4 rfl ?_
  refine go_aloadn dX2_longestDocument_5 rfl ?_
  refine gm_getI fd_X2_17 dX2_longestDocument_6 H (fun x1 H => ?_)
  refine go_icmp_ge (tgt := 38) dX2_longestDocument_9 (by decide) (fun c1 => ?_) (fun c1 => ?_)
  · replace H := (gm_ite H).1 c1
    refine go_iloadn dX2_longestDocument_38 rfl ?_
    obtain rfl := Option.some.inj H
    exact go_ireturn dX2_longestDocument_39 (tyI_int rfl)
  · replace H := (gm_ite H).2 c1
    refine go_iloadn dX2_longestDocument_12 rfl ?_
    refine go_iconst (v := (-1 : Int32)) dX2_longestDocument_13 rfl ?_
    refine go_icmp_eq (tgt := 30) dX2_longestDocument_14 (by decide) (fun c2 => ?_) (fun c2 => ?_)
    · replace H := (gm_ite H).1 c2
      refine go_mask [false, true, false, true] (loc' := [none, some (aA v1), none, some (aI v3)]) rfl ?_
      exact okj_X2_longestDocument_30 v1 v3 h k Hk H
    · replace H := (gm_ite H).2 c2
      refine go_aloadn dX2_longestDocument_17 rfl ?_
      refine go_iloadn dX2_longestDocument_18 rfl ?_
      obtain ⟨c3, x2, ex2, H⟩ := gm_rc H
      refine go_callV (vs := [aI v3]) (stk := []) (o1 := (some (aI x2), h)) mk_X0_latestLength sv_X2_longestDocument_40 cl_X0 rfl dX2_longestDocument_19 c3 rfl rfl (Nat.le_of_ble_eq_true rfl) (Nat.le_of_ble_eq_true rfl) (ok_X0_latestLength ex2) (show Go M_X2_longestDocument (some (aI r), h) 22 [none, some (aA v1), some (aI v2), some (aI v3)] [aI x2] h from ?_)
      refine go_aloadn dX2_longestDocument_22 rfl ?_
      refine go_iloadn dX2_longestDocument_23 rfl ?_
      obtain ⟨c4, x3, ex3, H⟩ := gm_rc H
      refine go_callV (vs := [aI v2]) (stk := [aI x2]) (o1 := (some (aI x3), h)) mk_X0_latestLength sv_X2_longestDocument_40 cl_X0 rfl dX2_longestDocument_24 c4 rfl rfl (Nat.le_of_ble_eq_true rfl) (Nat.le_of_ble_eq_true rfl) (ok_X0_latestLength ex3) (show Go M_X2_longestDocument (some (aI r), h) 27 [none, some (aA v1), some (aI v2), some (aI v3)] [aI x3, aI x2] h from ?_)
      refine go_icmp_le (tgt := 32) dX2_longestDocument_27 (by decide) (fun c5 => ?_) (fun c5 => ?_)
      · replace H := (gm_ite H).1 c5
        exact okj_X2_longestDocument_32 v1 v2 v3 h k Hk H
      · replace H := (gm_ite H).2 c5
        refine go_mask [false, true, false, true] (loc' := [none, some (aA v1), none, some (aI v3)]) rfl ?_
        exact okj_X2_longestDocument_30 v1 v3 h k Hk H
def l_X2_longestDocument_4 (v1 : Nat) (h : Hp) (v2 : Int32) (v3 : Int32) : Option Int32 := loopK FUEL (fun (k : Int32 × Int32 → Option Int32) (s : Int32 × Int32) => b_X2_longestDocument_4 v1 h (fun v2q v3q => k (v2q, v3q)) s.1 s.2) (v2, v3)
theorem okl_X2_longestDocument_4 {r : Int32} (v1 : Nat) (h : Hp) (v2 : Int32) (v3 : Int32) (H : l_X2_longestDocument_4 v1 h v2 v3 = some r) : Go M_X2_longestDocument (some (aI r), h) 4 [none, some (aA v1), some (aI v2), some (aI v3)] [] h := by
  unfold l_X2_longestDocument_4 at H
  exact go_loop (σ := Int32 × Int32) (body := (fun (k : Int32 × Int32 → Option Int32) (s : Int32 × Int32) => b_X2_longestDocument_4 v1 h (fun v2q v3q => k (v2q, v3q)) s.1 s.2)) (fun s => [none, some (aA v1), some (aI s.1), some (aI s.2)]) (fun s => h) (fun k s Hk H => okb_X2_longestDocument_4 v1 h (fun v2q v3q => k (v2q, v3q)) s.1 s.2  (fun v2q v3q H => Hk (v2q, v3q) H) H) FUEL (v2, v3) H
def m_X2_longestDocument (v0 : Nat) (v1 : Nat) (h : Hp) : Option Int32 :=
  l_X2_longestDocument_4 v1 h (-1 : Int32) (0 : Int32)
set_option maxRecDepth 20000 in
theorem ok_X2_longestDocument {r : Int32} {v0 : Nat} {v1 : Nat} {h : Hp} (H : m_X2_longestDocument v0 v1 h = some r) : Ev M_X2_longestDocument [aA v0, aA v1] h (some (aI r), h) := by
  show Go M_X2_longestDocument (some (aI r), h) 0 [some (aA v0), some (aA v1), none, none] [] h
  unfold m_X2_longestDocument at H
  refine go_iconst (v := (-1 : Int32)) dX2_longestDocument_0 rfl ?_
  refine go_istoren (loc2 := [some (aA v0), some (aA v1), some (aI (-1 : Int32)), none]) dX2_longestDocument_1 rfl (by decide) rfl ?_
  refine go_iconst (v := (0 : Int32)) dX2_longestDocument_2 rfl ?_
  refine go_istoren (loc2 := [some (aA v0), some (aA v1), some (aI (-1 : Int32)), some (aI (0 : Int32))]) dX2_longestDocument_3 rfl (by decide) rfl ?_
  refine go_mask [false, true, true, true] (loc' := [none, some (aA v1), some (aI (-1 : Int32)), some (aI (0 : Int32))]) rfl ?_
  exact okl_X2_longestDocument_4 v1 h (-1 : Int32) (0 : Int32) H
/-! X0_spellingAt -/
def m_X0_spellingAt (v0 : Nat) (v1 : Int32) (v2 : Int32) (v3 : Int32) (h : Hp) : Option Int32 :=
  (gfR h v0 1 7).bind fun x1 => (gfR h v0 1 6).bind fun x2 => (m_X0_slotOf v1 v2 h).bind fun x3 => (m_X5_at x2 ((x3 * (20 : Int32)) + v3) h).bind fun x4 => (m_X5_at x1 x4 h).bind fun x5 => some x5
set_option maxRecDepth 20000 in
theorem ok_X0_spellingAt {r : Int32} {v0 : Nat} {v1 : Int32} {v2 : Int32} {v3 : Int32} {h : Hp} (H : m_X0_spellingAt v0 v1 v2 v3 h = some r) : Ev M_X0_spellingAt [aA v0, aI v1, aI v2, aI v3] h (some (aI r), h) := by
  show Go M_X0_spellingAt (some (aI r), h) 0 [some (aA v0), some (aI v1), some (aI v2), some (aI v3)] [] h
  unfold m_X0_spellingAt at H
  refine go_aloadn dX0_spellingAt_0 rfl ?_
  refine gm_getR fd_X0_34 dX0_spellingAt_1 H (fun x1 H => ?_)
  refine go_aloadn dX0_spellingAt_4 rfl ?_
  refine gm_getR fd_X0_31 dX0_spellingAt_5 H (fun x2 H => ?_)
  refine go_iloadn dX0_spellingAt_8 rfl ?_
  refine go_iloadn dX0_spellingAt_9 rfl ?_
  obtain ⟨x3, ex3, H⟩ := bind_some H
  refine go_callS (vs := [aI v1, aI v2]) (stk := [aA x2, aA x1]) (o1 := (some (aI x3), h)) mk_X0_slotOf ss_X0_spellingAt_91 dX0_spellingAt_10 rfl rfl (Nat.le_of_ble_eq_true rfl) (Nat.le_of_ble_eq_true rfl) (ok_X0_slotOf ex3) (show Go M_X0_spellingAt (some (aI r), h) 13 [some (aA v0), some (aI v1), some (aI v2), some (aI v3)] [aI x3, aA x2, aA x1] h from ?_)
  refine go_bipush (v := (20 : Int32)) dX0_spellingAt_13 rfl ?_
  refine go_imul dX0_spellingAt_15 ?_
  refine go_iloadn dX0_spellingAt_16 rfl ?_
  refine go_iadd dX0_spellingAt_17 ?_
  obtain ⟨x4, ex4, H⟩ := bind_some H
  refine go_callS (vs := [aA x2, aI ((x3 * (20 : Int32)) + v3)]) (stk := [aA x1]) (o1 := (some (aI x4), h)) mk_X5_at ss_X0_spellingAt_87 dX0_spellingAt_18 rfl rfl (Nat.le_of_ble_eq_true rfl) (Nat.le_of_ble_eq_true rfl) (ok_X5_at ex4) (show Go M_X0_spellingAt (some (aI r), h) 21 [some (aA v0), some (aI v1), some (aI v2), some (aI v3)] [aI x4, aA x1] h from ?_)
  obtain ⟨x5, ex5, H⟩ := bind_some H
  refine go_callS (vs := [aA x1, aI x4]) (stk := []) (o1 := (some (aI x5), h)) mk_X5_at ss_X0_spellingAt_87 dX0_spellingAt_21 rfl rfl (Nat.le_of_ble_eq_true rfl) (Nat.le_of_ble_eq_true rfl) (ok_X5_at ex5) (show Go M_X0_spellingAt (some (aI r), h) 24 [some (aA v0), some (aI v1), some (aI v2), some (aI v3)] [aI x5] h from ?_)
  obtain rfl := Option.some.inj H
  exact go_ireturn dX0_spellingAt_24 (tyI_int rfl)
/-! X2_sameWords -/
def b_X2_sameWords_26 (v1 : Nat) (v2 : Int32) (v3 : Int32) (v4 : Int32) (v5 : Int32) (v6 : Int32) (h : Hp) (k : Int32 → Option Int32) (v7 : Int32) : Option Int32 :=
  if v6 ≤ v7 then (some (1 : Int32)) else (rc h v1 1 (m_X0_spellingAt v1 v2 v3 v7 h)).bind fun x1 => (rc h v1 1 (m_X0_spellingAt v1 v4 v5 v7 h)).bind fun x2 => if x1 = x2 then (k (v7 + (1 : Int32))) else some (0 : Int32)
set_option maxRecDepth 20000 in
theorem okb_X2_sameWords_26 {r : Int32} (v1 : Nat) (v2 : Int32) (v3 : Int32) (v4 : Int32) (v5 : Int32) (v6 : Int32) (h : Hp) (k : Int32 → Option Int32) (v7 : Int32) (Hk : ∀ (v7q : Int32), k v7q = some r → Go M_X2_sameWords (some (aI r), h) 26 [none, some (aA v1), some (aI v2), some (aI v3), some (aI v4), some (aI v5), some (aI v6), some (aI v7q)] [] h) (H : b_X2_sameWords_26 v1 v2 v3 v4 v5 v6 h k v7 = some r) : Go M_X2_sameWords (some (aI r), h) 26 [none, some (aA v1), some (aI v2), some (aI v3), some (aI v4), some (aI v5), some (aI v6), some (aI v7)] [] h := by
  unfold b_X2_sameWords_26 at H
  refine go_iload dX2_sameWords_26 rfl ?_
  refine go_iload dX2_sameWords_28 rfl ?_
  refine go_icmp_ge (tgt := 62) dX2_sameWords_30 (by decide) (fun c1 => ?_) (fun c1 => ?_)
  · replace H := (gm_ite H).1 c1
    refine go_iconst (v := (1 : Int32)) dX2_sameWords_62 rfl ?_
    obtain rfl := Option.some.inj H
    exact go_ireturn (x := (1 : Int32)) dX2_sameWords_63 (tyI_bool rfl (by decide))
  · replace H := (gm_ite H).2 c1
    refine go_aloadn dX2_sameWords_33 rfl ?_
    refine go_iloadn dX2_sameWords_34 rfl ?_
    refine go_iloadn dX2_sameWords_35 rfl ?_
    refine go_iload dX2_sameWords_36 rfl ?_
    obtain ⟨c2, x1, ex1, H⟩ := gm_rc H
    refine go_callV (vs := [aI v2, aI v3, aI v7]) (stk := []) (o1 := (some (aI x1), h)) mk_X0_spellingAt sv_X2_sameWords_51 cl_X0 rfl dX2_sameWords_38 c2 rfl rfl (Nat.le_of_ble_eq_true rfl) (Nat.le_of_ble_eq_true rfl) (ok_X0_spellingAt ex1) (show Go M_X2_sameWords (some (aI r), h) 41 [none, some (aA v1), some (aI v2), some (aI v3), some (aI v4), some (aI v5), some (aI v6), some (aI v7)] [aI x1] h from ?_)
    refine go_aloadn dX2_sameWords_41 rfl ?_
    refine go_iload dX2_sameWords_42 rfl ?_
    refine go_iload dX2_sameWords_44 rfl ?_
    refine go_iload dX2_sameWords_46 rfl ?_
    obtain ⟨c3, x2, ex2, H⟩ := gm_rc H
    refine go_callV (vs := [aI v4, aI v5, aI v7]) (stk := [aI x1]) (o1 := (some (aI x2), h)) mk_X0_spellingAt sv_X2_sameWords_51 cl_X0 rfl dX2_sameWords_48 c3 rfl rfl (Nat.le_of_ble_eq_true rfl) (Nat.le_of_ble_eq_true rfl) (ok_X0_spellingAt ex2) (show Go M_X2_sameWords (some (aI r), h) 51 [none, some (aA v1), some (aI v2), some (aI v3), some (aI v4), some (aI v5), some (aI v6), some (aI v7)] [aI x2, aI x1] h from ?_)
    refine go_icmp_eq (tgt := 56) dX2_sameWords_51 (by decide) (fun c4 => ?_) (fun c4 => ?_)
    · replace H := (gm_ite H).1 c4
      refine go_iinc (v := (v7 + (1 : Int32))) (loc2 := [none, some (aA v1), some (aI v2), some (aI v3), some (aI v4), some (aI v5), some (aI v6), some (aI (v7 + (1 : Int32)))]) dX2_sameWords_56 rfl rfl (by decide) rfl ?_
      refine go_goto (tgt := 26) dX2_sameWords_59 (by decide) ?_
      exact Hk (v7 + (1 : Int32)) H
    · replace H := (gm_ite H).2 c4
      refine go_iconst (v := (0 : Int32)) dX2_sameWords_54 rfl ?_
      obtain rfl := Option.some.inj H
      exact go_ireturn (x := (0 : Int32)) dX2_sameWords_55 (tyI_bool rfl (by decide))
def l_X2_sameWords_26 (v1 : Nat) (v2 : Int32) (v3 : Int32) (v4 : Int32) (v5 : Int32) (v6 : Int32) (h : Hp) (v7 : Int32) : Option Int32 := loopK FUEL (fun (k : Int32 → Option Int32) (s : Int32) => b_X2_sameWords_26 v1 v2 v3 v4 v5 v6 h (fun v7q => k v7q) s) v7
theorem okl_X2_sameWords_26 {r : Int32} (v1 : Nat) (v2 : Int32) (v3 : Int32) (v4 : Int32) (v5 : Int32) (v6 : Int32) (h : Hp) (v7 : Int32) (H : l_X2_sameWords_26 v1 v2 v3 v4 v5 v6 h v7 = some r) : Go M_X2_sameWords (some (aI r), h) 26 [none, some (aA v1), some (aI v2), some (aI v3), some (aI v4), some (aI v5), some (aI v6), some (aI v7)] [] h := by
  unfold l_X2_sameWords_26 at H
  exact go_loop (σ := Int32) (body := (fun (k : Int32 → Option Int32) (s : Int32) => b_X2_sameWords_26 v1 v2 v3 v4 v5 v6 h (fun v7q => k v7q) s)) (fun s => [none, some (aA v1), some (aI v2), some (aI v3), some (aI v4), some (aI v5), some (aI v6), some (aI s)]) (fun s => h) (fun k s Hk H => okb_X2_sameWords_26 v1 v2 v3 v4 v5 v6 h (fun v7q => k v7q) s  (fun v7q H => Hk v7q H) H) FUEL v7 H
def m_X2_sameWords (v0 : Nat) (v1 : Nat) (v2 : Int32) (v3 : Int32) (v4 : Int32) (v5 : Int32) (h : Hp) : Option Int32 :=
  (rc h v1 1 (m_X0_lengthOf v1 v2 v3 h)).bind fun x1 => (rc h v1 1 (m_X0_lengthOf v1 v4 v5 h)).bind fun x2 => if x1 = x2 then (l_X2_sameWords_26 v1 v2 v3 v4 v5 x1 h (0 : Int32)) else some (0 : Int32)
set_option maxRecDepth 20000 in
theorem ok_X2_sameWords {r : Int32} {v0 : Nat} {v1 : Nat} {v2 : Int32} {v3 : Int32} {v4 : Int32} {v5 : Int32} {h : Hp} (H : m_X2_sameWords v0 v1 v2 v3 v4 v5 h = some r) : Ev M_X2_sameWords [aA v0, aA v1, aI v2, aI v3, aI v4, aI v5] h (some (aI r), h) := by
  show Go M_X2_sameWords (some (aI r), h) 0 [some (aA v0), some (aA v1), some (aI v2), some (aI v3), some (aI v4), some (aI v5), none, none] [] h
  unfold m_X2_sameWords at H
  refine go_aloadn dX2_sameWords_0 rfl ?_
  refine go_iloadn dX2_sameWords_1 rfl ?_
  refine go_iloadn dX2_sameWords_2 rfl ?_
  obtain ⟨c1, x1, ex1, H⟩ := gm_rc H
  refine go_callV (vs := [aI v2, aI v3]) (stk := []) (o1 := (some (aI x1), h)) mk_X0_lengthOf sv_X2_sameWords_25 cl_X0 rfl dX2_sameWords_3 c1 rfl rfl (Nat.le_of_ble_eq_true rfl) (Nat.le_of_ble_eq_true rfl) (ok_X0_lengthOf ex1) (show Go M_X2_sameWords (some (aI r), h) 6 [some (aA v0), some (aA v1), some (aI v2), some (aI v3), some (aI v4), some (aI v5), none, none] [aI x1] h from ?_)
  refine go_istore (loc2 := [some (aA v0), some (aA v1), some (aI v2), some (aI v3), some (aI v4), some (aI v5), some (aI x1), none]) dX2_sameWords_6 (by decide) rfl ?_
  refine go_iload dX2_sameWords_8 rfl ?_
  refine go_aloadn dX2_sameWords_10 rfl ?_
  refine go_iload dX2_sameWords_11 rfl ?_
  refine go_iload dX2_sameWords_13 rfl ?_
  obtain ⟨c2, x2, ex2, H⟩ := gm_rc H
  refine go_callV (vs := [aI v4, aI v5]) (stk := [aI x1]) (o1 := (some (aI x2), h)) mk_X0_lengthOf sv_X2_sameWords_25 cl_X0 rfl dX2_sameWords_15 c2 rfl rfl (Nat.le_of_ble_eq_true rfl) (Nat.le_of_ble_eq_true rfl) (ok_X0_lengthOf ex2) (show Go M_X2_sameWords (some (aI r), h) 18 [some (aA v0), some (aA v1), some (aI v2), some (aI v3), some (aI v4), some (aI v5), some (aI x1), none] [aI x2, aI x1] h from ?_)
  refine go_icmp_eq (tgt := 23) dX2_sameWords_18 (by decide) (fun c3 => ?_) (fun c3 => ?_)
  · replace H := (gm_ite H).1 c3
    refine go_iconst (v := (0 : Int32)) dX2_sameWords_23 rfl ?_
    refine go_istore (loc2 := [some (aA v0), some (aA v1), some (aI v2), some (aI v3), some (aI v4), some (aI v5), some (aI x1), some (aI (0 : Int32))]) dX2_sameWords_24 (by decide) rfl ?_
    refine go_mask [false, true, true, true, true, true, true, true] (loc' := [none, some (aA v1), some (aI v2), some (aI v3), some (aI v4), some (aI v5), some (aI x1), some (aI (0 : Int32))]) rfl ?_
    exact okl_X2_sameWords_26 v1 v2 v3 v4 v5 x1 h (0 : Int32) H
  · replace H := (gm_ite H).2 c3
    refine go_iconst (v := (0 : Int32)) dX2_sameWords_21 rfl ?_
    obtain rfl := Option.some.inj H
    exact go_ireturn (x := (0 : Int32)) dX2_sameWords_22 (tyI_bool rfl (by decide))
/-! X2_twinsAhead -/
def j_X2_twinsAhead_61 (v0 : Nat) (v1 : Nat) (v2 : Int32) (v3 : Int32) (v5 : Int32) (v6 : Int32) (v7 : Int32) (s0 : Int32) (s1 : Int32) (h : Hp) (K70 : Int32 → Option Int32) (k : Int32 → Int32 → Option Int32) : Option Int32 :=
  k (s0 + s1) (v7 + (1 : Int32))
set_option maxRecDepth 20000 in
theorem okj_X2_twinsAhead_61 {r : Int32} (v0 : Nat) (v1 : Nat) (v2 : Int32) (v3 : Int32) (v5 : Int32) (v6 : Int32) (v7 : Int32) (s0 : Int32) (s1 : Int32) (h : Hp) (K70 : Int32 → Option Int32) (k : Int32 → Int32 → Option Int32) (HK70 : ∀ (v4q : Int32) , K70 v4q = some r → Go M_X2_twinsAhead (some (aI r), h) 70 [some (aA v0), some (aA v1), some (aI v2), some (aI v3), some (aI v4q), some (aI v5), none, none] [] h) (Hk : ∀ (v4q : Int32) (v7q : Int32), k v4q v7q = some r → Go M_X2_twinsAhead (some (aI r), h) 33 [some (aA v0), some (aA v1), some (aI v2), some (aI v3), some (aI v4q), some (aI v5), some (aI v6), some (aI v7q)] [] h) (H : j_X2_twinsAhead_61 v0 v1 v2 v3 v5 v6 v7 s0 s1 h K70 k = some r) : Go M_X2_twinsAhead (some (aI r), h) 61 [some (aA v0), some (aA v1), some (aI v2), some (aI v3), none, some (aI v5), some (aI v6), some (aI v7)] [aI s1, aI s0] h := by
  unfold j_X2_twinsAhead_61 at H
  refine go_iadd dX2_twinsAhead_61 ?_
  refine go_istore (loc2 := [some (aA v0), some (aA v1), some (aI v2), some (aI v3), some (aI (s0 + s1)), some (aI v5), some (aI v6), some (aI v7)]) dX2_twinsAhead_62 (by decide) rfl ?_
  refine go_iinc (v := (v7 + (1 : Int32))) (loc2 := [some (aA v0), some (aA v1), some (aI v2), some (aI v3), some (aI (s0 + s1)), some (aI v5), some (aI v6), some (aI (v7 + (1 : Int32)))]) dX2_twinsAhead_64 rfl rfl (by decide) rfl ?_
  refine go_goto (tgt := 33) dX2_twinsAhead_67 (by decide) ?_
  exact Hk (s0 + s1) (v7 + (1 : Int32)) H
def b_X2_twinsAhead_33 (v0 : Nat) (v1 : Nat) (v2 : Int32) (v3 : Int32) (v5 : Int32) (v6 : Int32) (h : Hp) (K70 : Int32 → Option Int32) (k : Int32 → Int32 → Option Int32) (v4 : Int32) (v7 : Int32) : Option Int32 :=
  if v6 ≤ v7 then K70 v4 else (rc h v0 3 (m_X2_sameWords v0 v1 v2 v3 v5 v7 h)).bind fun x1 => j_X2_twinsAhead_61 v0 v1 v2 v3 v5 v6 v7 v4 (if x1 = 0 then (0 : Int32) else (1 : Int32)) h K70 k
set_option maxRecDepth 20000 in
theorem okb_X2_twinsAhead_33 {r : Int32} (v0 : Nat) (v1 : Nat) (v2 : Int32) (v3 : Int32) (v5 : Int32) (v6 : Int32) (h : Hp) (K70 : Int32 → Option Int32) (k : Int32 → Int32 → Option Int32) (v4 : Int32) (v7 : Int32) (HK70 : ∀ (v4q : Int32) , K70 v4q = some r → Go M_X2_twinsAhead (some (aI r), h) 70 [some (aA v0), some (aA v1), some (aI v2), some (aI v3), some (aI v4q), some (aI v5), none, none] [] h) (Hk : ∀ (v4q : Int32) (v7q : Int32), k v4q v7q = some r → Go M_X2_twinsAhead (some (aI r), h) 33 [some (aA v0), some (aA v1), some (aI v2), some (aI v3), some (aI v4q), some (aI v5), some (aI v6), some (aI v7q)] [] h) (H : b_X2_twinsAhead_33 v0 v1 v2 v3 v5 v6 h K70 k v4 v7 = some r) : Go M_X2_twinsAhead (some (aI r), h) 33 [some (aA v0), some (aA v1), some (aI v2), some (aI v3), some (aI v4), some (aI v5), some (aI v6), some (aI v7)] [] h := by
  unfold b_X2_twinsAhead_33 at H
  refine go_iload dX2_twinsAhead_33 rfl ?_
  refine go_iload dX2_twinsAhead_35 rfl ?_
  refine go_icmp_ge (tgt := 70) dX2_twinsAhead_37 (by decide) (fun c1 => ?_) (fun c1 => ?_)
  · replace H := (gm_ite H).1 c1
    refine go_mask [true, true, true, true, true, true, false, false] (loc' := [some (aA v0), some (aA v1), some (aI v2), some (aI v3), some (aI v4), some (aI v5), none, none]) rfl ?_
    exact HK70 v4 H
  · replace H := (gm_ite H).2 c1
    refine go_iload dX2_twinsAhead_40 rfl ?_
    refine go_aloadn dX2_twinsAhead_42 rfl ?_
    refine go_aloadn dX2_twinsAhead_43 rfl ?_
    refine go_iloadn dX2_twinsAhead_44 rfl ?_
    refine go_iloadn dX2_twinsAhead_45 rfl ?_
    refine go_iload dX2_twinsAhead_46 rfl ?_
    refine go_iload dX2_twinsAhead_48 rfl ?_
    obtain ⟨c2, x1, ex1, H⟩ := gm_rc H
    refine go_callV (vs := [aA v1, aI v2, aI v3, aI v5, aI v7]) (stk := [aI v4]) (o1 := (some (aI x1), h)) mk_X2_sameWords sv_X2_twinsAhead_47 cl_X2 rfl dX2_twinsAhead_50 c2 rfl rfl (Nat.le_of_ble_eq_true rfl) (Nat.le_of_ble_eq_true rfl) (ok_X2_sameWords ex1) (show Go M_X2_twinsAhead (some (aI r), h) 53 [some (aA v0), some (aA v1), some (aI v2), some (aI v3), some (aI v4), some (aI v5), some (aI v6), some (aI v7)] [aI x1, aI v4] h from ?_)
    refine go_if_eq (tgt := 60) dX2_twinsAhead_53 (by decide) (fun c3 => ?_) (fun c3 => ?_)
    · rw [if_pos c3] at H
      refine go_iconst (v := (0 : Int32)) dX2_twinsAhead_60 rfl ?_
      refine go_mask [true, true, true, true, false, true, true, true] (loc' := [some (aA v0), some (aA v1), some (aI v2), some (aI v3), none, some (aI v5), some (aI v6), some (aI v7)]) rfl ?_
      exact okj_X2_twinsAhead_61 v0 v1 v2 v3 v5 v6 v7 v4 (0 : Int32) h K70 k HK70 Hk H
    · rw [if_neg c3] at H
      refine go_iconst (v := (1 : Int32)) dX2_twinsAhead_56 rfl ?_
      refine go_goto (tgt := 61) dX2_twinsAhead_57 (by decide) ?_
      refine go_mask [true, true, true, true, false, true, true, true] (loc' := [some (aA v0), some (aA v1), some (aI v2), some (aI v3), none, some (aI v5), some (aI v6), some (aI v7)]) rfl ?_
      exact okj_X2_twinsAhead_61 v0 v1 v2 v3 v5 v6 v7 v4 (1 : Int32) h K70 k HK70 Hk H
def l_X2_twinsAhead_33 (v0 : Nat) (v1 : Nat) (v2 : Int32) (v3 : Int32) (v5 : Int32) (v6 : Int32) (h : Hp) (K70 : Int32 → Option Int32) (v4 : Int32) (v7 : Int32) : Option Int32 := loopK FUEL (fun (k : Int32 × Int32 → Option Int32) (s : Int32 × Int32) => b_X2_twinsAhead_33 v0 v1 v2 v3 v5 v6 h K70 (fun v4q v7q => k (v4q, v7q)) s.1 s.2) (v4, v7)
theorem okl_X2_twinsAhead_33 {r : Int32} (v0 : Nat) (v1 : Nat) (v2 : Int32) (v3 : Int32) (v5 : Int32) (v6 : Int32) (h : Hp) (K70 : Int32 → Option Int32) (v4 : Int32) (v7 : Int32) (HK70 : ∀ (v4q : Int32) , K70 v4q = some r → Go M_X2_twinsAhead (some (aI r), h) 70 [some (aA v0), some (aA v1), some (aI v2), some (aI v3), some (aI v4q), some (aI v5), none, none] [] h) (H : l_X2_twinsAhead_33 v0 v1 v2 v3 v5 v6 h K70 v4 v7 = some r) : Go M_X2_twinsAhead (some (aI r), h) 33 [some (aA v0), some (aA v1), some (aI v2), some (aI v3), some (aI v4), some (aI v5), some (aI v6), some (aI v7)] [] h := by
  unfold l_X2_twinsAhead_33 at H
  exact go_loop (σ := Int32 × Int32) (body := (fun (k : Int32 × Int32 → Option Int32) (s : Int32 × Int32) => b_X2_twinsAhead_33 v0 v1 v2 v3 v5 v6 h K70 (fun v4q v7q => k (v4q, v7q)) s.1 s.2)) (fun s => [some (aA v0), some (aA v1), some (aI v2), some (aI v3), some (aI s.1), some (aI v5), some (aI v6), some (aI s.2)]) (fun s => h) (fun k s Hk H => okb_X2_twinsAhead_33 v0 v1 v2 v3 v5 v6 h K70 (fun v4q v7q => k (v4q, v7q)) s.1 s.2 HK70 (fun v4q v7q H => Hk (v4q, v7q) H) H) FUEL (v4, v7) H
def j_X2_twinsAhead_70 (v0 : Nat) (v1 : Nat) (v2 : Int32) (v3 : Int32) (v4 : Int32) (v5 : Int32)  (h : Hp) (k : Int32 → Int32 → Option Int32) : Option Int32 :=
  k v4 (v5 + (1 : Int32))
set_option maxRecDepth 20000 in
theorem okj_X2_twinsAhead_70 {r : Int32} (v0 : Nat) (v1 : Nat) (v2 : Int32) (v3 : Int32) (v4 : Int32) (v5 : Int32)  (h : Hp) (k : Int32 → Int32 → Option Int32) (Hk : ∀ (v4q : Int32) (v5q : Int32), k v4q v5q = some r → Go M_X2_twinsAhead (some (aI r), h) 6 [some (aA v0), some (aA v1), some (aI v2), some (aI v3), some (aI v4q), some (aI v5q), none, none] [] h) (H : j_X2_twinsAhead_70 v0 v1 v2 v3 v4 v5 h k = some r) : Go M_X2_twinsAhead (some (aI r), h) 70 [some (aA v0), some (aA v1), some (aI v2), some (aI v3), some (aI v4), some (aI v5), none, none] [] h := by
  unfold j_X2_twinsAhead_70 at H
  refine go_iinc (v := (v5 + (1 : Int32))) (loc2 := [some (aA v0), some (aA v1), some (aI v2), some (aI v3), some (aI v4), some (aI (v5 + (1 : Int32))), none, none]) dX2_twinsAhead_70 rfl rfl (by decide) rfl ?_
  refine go_goto (tgt := 6) dX2_twinsAhead_73 (by decide) ?_
  exact Hk v4 (v5 + (1 : Int32)) H
def j_X2_twinsAhead_28 (v0 : Nat) (v1 : Nat) (v2 : Int32) (v3 : Int32) (v4 : Int32) (v5 : Int32) (s0 : Int32) (h : Hp) (k : Int32 → Int32 → Option Int32) : Option Int32 :=
  l_X2_twinsAhead_33 v0 v1 v2 v3 v5 s0 h (fun a1_4 => j_X2_twinsAhead_70 v0 v1 v2 v3 a1_4 v5 h k) v4 (0 : Int32)
set_option maxRecDepth 20000 in
theorem okj_X2_twinsAhead_28 {r : Int32} (v0 : Nat) (v1 : Nat) (v2 : Int32) (v3 : Int32) (v4 : Int32) (v5 : Int32) (s0 : Int32) (h : Hp) (k : Int32 → Int32 → Option Int32) (Hk : ∀ (v4q : Int32) (v5q : Int32), k v4q v5q = some r → Go M_X2_twinsAhead (some (aI r), h) 6 [some (aA v0), some (aA v1), some (aI v2), some (aI v3), some (aI v4q), some (aI v5q), none, none] [] h) (H : j_X2_twinsAhead_28 v0 v1 v2 v3 v4 v5 s0 h k = some r) : Go M_X2_twinsAhead (some (aI r), h) 28 [some (aA v0), some (aA v1), some (aI v2), some (aI v3), some (aI v4), some (aI v5), none, none] [aI s0] h := by
  unfold j_X2_twinsAhead_28 at H
  refine go_istore (loc2 := [some (aA v0), some (aA v1), some (aI v2), some (aI v3), some (aI v4), some (aI v5), some (aI s0), none]) dX2_twinsAhead_28 (by decide) rfl ?_
  refine go_iconst (v := (0 : Int32)) dX2_twinsAhead_30 rfl ?_
  refine go_istore (loc2 := [some (aA v0), some (aA v1), some (aI v2), some (aI v3), some (aI v4), some (aI v5), some (aI s0), some (aI (0 : Int32))]) dX2_twinsAhead_31 (by decide) rfl ?_
  refine okl_X2_twinsAhead_33 v0 v1 v2 v3 v5 s0 h (fun a1_4 => j_X2_twinsAhead_70 v0 v1 v2 v3 a1_4 v5 h k) v4 (0 : Int32) ?_ H
  · intro a1_4 H
    exact okj_X2_twinsAhead_70 v0 v1 v2 v3 a1_4 v5 h k Hk H
def b_X2_twinsAhead_6 (v0 : Nat) (v1 : Nat) (v2 : Int32) (v3 : Int32) (h : Hp) (k : Int32 → Int32 → Option Int32) (v4 : Int32) (v5 : Int32) : Option Int32 :=
  if v2 < v5 then (some v4) else if ¬ v5 = v2 then ((rc h v1 1 (m_X0_versionsOf v1 v5 h)).bind fun x1 => j_X2_twinsAhead_28 v0 v1 v2 v3 v4 v5 x1 h k) else j_X2_twinsAhead_28 v0 v1 v2 v3 v4 v5 v3 h k
set_option maxRecDepth 20000 in
theorem okb_X2_twinsAhead_6 {r : Int32} (v0 : Nat) (v1 : Nat) (v2 : Int32) (v3 : Int32) (h : Hp) (k : Int32 → Int32 → Option Int32) (v4 : Int32) (v5 : Int32) (Hk : ∀ (v4q : Int32) (v5q : Int32), k v4q v5q = some r → Go M_X2_twinsAhead (some (aI r), h) 6 [some (aA v0), some (aA v1), some (aI v2), some (aI v3), some (aI v4q), some (aI v5q), none, none] [] h) (H : b_X2_twinsAhead_6 v0 v1 v2 v3 h k v4 v5 = some r) : Go M_X2_twinsAhead (some (aI r), h) 6 [some (aA v0), some (aA v1), some (aI v2), some (aI v3), some (aI v4), some (aI v5), none, none] [] h := by
  unfold b_X2_twinsAhead_6 at H
  refine go_iload dX2_twinsAhead_6 rfl ?_
  refine go_iloadn dX2_twinsAhead_8 rfl ?_
  refine go_icmp_gt (tgt := 76) dX2_twinsAhead_9 (by decide) (fun c1 => ?_) (fun c1 => ?_)
  · replace H := (gm_ite H).1 c1
    refine go_iload dX2_twinsAhead_76 rfl ?_
    obtain rfl := Option.some.inj H
    exact go_ireturn dX2_twinsAhead_78 (tyI_int rfl)
  · replace H := (gm_ite H).2 c1
    refine go_iload dX2_twinsAhead_12 rfl ?_
    refine go_iloadn dX2_twinsAhead_14 rfl ?_
    refine go_icmp_ne (tgt := 22) dX2_twinsAhead_15 (by decide) (fun c2 => ?_) (fun c2 => ?_)
    · replace H := (gm_ite H).1 c2
      refine go_aloadn dX2_twinsAhead_22 rfl ?_
      refine go_iload dX2_twinsAhead_23 rfl ?_
      obtain ⟨c3, x1, ex1, H⟩ := gm_rc H
      refine go_callV (vs := [aI v5]) (stk := []) (o1 := (some (aI x1), h)) mk_X0_versionsOf sv_X2_twinsAhead_21 cl_X0 rfl dX2_twinsAhead_25 c3 rfl rfl (Nat.le_of_ble_eq_true rfl) (Nat.le_of_ble_eq_true rfl) (ok_X0_versionsOf ex1) (show Go M_X2_twinsAhead (some (aI r), h) 28 [some (aA v0), some (aA v1), some (aI v2), some (aI v3), some (aI v4), some (aI v5), none, none] [aI x1] h from ?_)
      exact okj_X2_twinsAhead_28 v0 v1 v2 v3 v4 v5 x1 h k Hk H
    · replace H := (gm_ite H).2 c2
      refine go_iloadn dX2_twinsAhead_18 rfl ?_
      refine go_goto (tgt := 28) dX2_twinsAhead_19 (by decide) ?_
      exact okj_X2_twinsAhead_28 v0 v1 v2 v3 v4 v5 v3 h k Hk H
def l_X2_twinsAhead_6 (v0 : Nat) (v1 : Nat) (v2 : Int32) (v3 : Int32) (h : Hp) (v4 : Int32) (v5 : Int32) : Option Int32 := loopK FUEL (fun (k : Int32 × Int32 → Option Int32) (s : Int32 × Int32) => b_X2_twinsAhead_6 v0 v1 v2 v3 h (fun v4q v5q => k (v4q, v5q)) s.1 s.2) (v4, v5)
theorem okl_X2_twinsAhead_6 {r : Int32} (v0 : Nat) (v1 : Nat) (v2 : Int32) (v3 : Int32) (h : Hp) (v4 : Int32) (v5 : Int32) (H : l_X2_twinsAhead_6 v0 v1 v2 v3 h v4 v5 = some r) : Go M_X2_twinsAhead (some (aI r), h) 6 [some (aA v0), some (aA v1), some (aI v2), some (aI v3), some (aI v4), some (aI v5), none, none] [] h := by
  unfold l_X2_twinsAhead_6 at H
  exact go_loop (σ := Int32 × Int32) (body := (fun (k : Int32 × Int32 → Option Int32) (s : Int32 × Int32) => b_X2_twinsAhead_6 v0 v1 v2 v3 h (fun v4q v5q => k (v4q, v5q)) s.1 s.2)) (fun s => [some (aA v0), some (aA v1), some (aI v2), some (aI v3), some (aI s.1), some (aI s.2), none, none]) (fun s => h) (fun k s Hk H => okb_X2_twinsAhead_6 v0 v1 v2 v3 h (fun v4q v5q => k (v4q, v5q)) s.1 s.2  (fun v4q v5q H => Hk (v4q, v5q) H) H) FUEL (v4, v5) H
def m_X2_twinsAhead (v0 : Nat) (v1 : Nat) (v2 : Int32) (v3 : Int32) (h : Hp) : Option Int32 :=
  l_X2_twinsAhead_6 v0 v1 v2 v3 h (0 : Int32) (0 : Int32)
set_option maxRecDepth 20000 in
theorem ok_X2_twinsAhead {r : Int32} {v0 : Nat} {v1 : Nat} {v2 : Int32} {v3 : Int32} {h : Hp} (H : m_X2_twinsAhead v0 v1 v2 v3 h = some r) : Ev M_X2_twinsAhead [aA v0, aA v1, aI v2, aI v3] h (some (aI r), h) := by
  show Go M_X2_twinsAhead (some (aI r), h) 0 [some (aA v0), some (aA v1), some (aI v2), some (aI v3), none, none, none, none] [] h
  unfold m_X2_twinsAhead at H
  refine go_iconst (v := (0 : Int32)) dX2_twinsAhead_0 rfl ?_
  refine go_istore (loc2 := [some (aA v0), some (aA v1), some (aI v2), some (aI v3), some (aI (0 : Int32)), none, none, none]) dX2_twinsAhead_1 (by decide) rfl ?_
  refine go_iconst (v := (0 : Int32)) dX2_twinsAhead_3 rfl ?_
  refine go_istore (loc2 := [some (aA v0), some (aA v1), some (aI v2), some (aI v3), some (aI (0 : Int32)), some (aI (0 : Int32)), none, none]) dX2_twinsAhead_4 (by decide) rfl ?_
  exact okl_X2_twinsAhead_6 v0 v1 v2 v3 h (0 : Int32) (0 : Int32) H
