/-! X11_holds -/
def m_X11_holds (v0 : Nat) (v1 : Int32) (v2 : Int32) (v3 : Int32) (v4 : Int32) (v5 : Int32) (h : Hp) : Option (Int32 × Hp) :=
  (gfR h v0 11 0).bind fun x1 => (rc h x1 9 (m_X9_archiveAt x1 v1 h)).bind fun x2 => (gfR h v0 11 0).bind fun x3 => (rc h x3 9 (m_X9_questionsAt x3 v2 h)).bind fun x4 => (nz x2).bind fun _ => if x2 = 0 then (some ((-1 : Int32), h)) else (nz x4).bind fun _ => if x4 = 0 then (some ((-1 : Int32), h)) else (rc h x4 6 (m_X6_has x4 v3 h)).bind fun x5 => if x5 = 0 then (some ((-1 : Int32), h)) else (rc h x2 1 (m_X0_hasVersion x2 v4 v5 h)).bind fun x6 => if ¬ x6 = 0 then ((gfR h v0 11 4).bind fun x7 => (rc h x7 8 (m_X8_look x7 x2 x4 v3 h)).bind fun x8 => (gfR x8 v0 11 4).bind fun x9 => (rc x8 x9 8 (m_X8_held x9 v3 v4 x8)).bind fun x10 => (m_X5_bit x10 v5 x8).bind fun x11 => some (x11, x8)) else some ((-1 : Int32), h)
set_option maxRecDepth 20000 in
theorem ok_X11_holds {r : (Int32 × Hp)} {v0 : Nat} {v1 : Int32} {v2 : Int32} {v3 : Int32} {v4 : Int32} {v5 : Int32} {h : Hp} (H : m_X11_holds v0 v1 v2 v3 v4 v5 h = some r) : Ev M_X11_holds [aA v0, aI v1, aI v2, aI v3, aI v4, aI v5] h (some (aI r.1), r.2) := by
  show Go M_X11_holds (some (aI r.1), r.2) 0 [some (aA v0), some (aI v1), some (aI v2), some (aI v3), some (aI v4), some (aI v5), none, none] [] h
  unfold m_X11_holds at H
  refine go_aloadn dX11_holds_0 rfl ?_
  refine gm_getR fd_X11_10 dX11_holds_1 H (fun x1 H => ?_)
  refine go_iloadn dX11_holds_4 rfl ?_
  obtain ⟨c1, x2, ex2, H⟩ := gm_rc H
  refine go_callV (vs := [aI v1]) (stk := []) (o1 := (some (aA x2), h)) mk_X9_archiveAt sv_X11_holds_86 cl_X9 rfl dX11_holds_5 c1 rfl rfl (Nat.le_of_ble_eq_true rfl) (Nat.le_of_ble_eq_true rfl) (ok_X9_archiveAt ex2) (show Go M_X11_holds (some (aI r.1), r.2) 8 [some (aA v0), some (aI v1), some (aI v2), some (aI v3), some (aI v4), some (aI v5), none, none] [aA x2] h from ?_)
  refine go_astore (loc2 := [some (aA v0), some (aI v1), some (aI v2), some (aI v3), some (aI v4), some (aI v5), some (aA x2), none]) dX11_holds_8 (by decide) rfl ?_
  refine go_aloadn dX11_holds_10 rfl ?_
  refine gm_getR fd_X11_10 dX11_holds_11 H (fun x3 H => ?_)
  refine go_iloadn dX11_holds_14 rfl ?_
  obtain ⟨c2, x4, ex4, H⟩ := gm_rc H
  refine go_callV (vs := [aI v2]) (stk := []) (o1 := (some (aA x4), h)) mk_X9_questionsAt sv_X11_holds_231 cl_X9 rfl dX11_holds_15 c2 rfl rfl (Nat.le_of_ble_eq_true rfl) (Nat.le_of_ble_eq_true rfl) (ok_X9_questionsAt ex4) (show Go M_X11_holds (some (aI r.1), r.2) 18 [some (aA v0), some (aI v1), some (aI v2), some (aI v3), some (aI v4), some (aI v5), some (aA x2), none] [aA x4] h from ?_)
  refine go_astore (loc2 := [some (aA v0), some (aI v1), some (aI v2), some (aI v3), some (aI v4), some (aI v5), some (aA x2), some (aA x4)]) dX11_holds_18 (by decide) rfl ?_
  refine go_aload dX11_holds_20 rfl ?_
  obtain ⟨c4, H⟩ := gm_nz H
  refine go_ifnull (tgt := 51) dX11_holds_22 (by decide) c4 (fun c3 => ?_) (fun c3 => ?_)
  · replace H := (gm_ite H).1 c3
    refine go_iconst (v := (-1 : Int32)) dX11_holds_51 rfl ?_
    obtain rfl := Option.some.inj H
    exact go_ireturn dX11_holds_52 (tyI_int rfl)
  · replace H := (gm_ite H).2 c3
    refine go_aload dX11_holds_25 rfl ?_
    obtain ⟨c6, H⟩ := gm_nz H
    refine go_ifnull (tgt := 51) dX11_holds_27 (by decide) c6 (fun c5 => ?_) (fun c5 => ?_)
    · replace H := (gm_ite H).1 c5
      refine go_iconst (v := (-1 : Int32)) dX11_holds_51 rfl ?_
      obtain rfl := Option.some.inj H
      exact go_ireturn dX11_holds_52 (tyI_int rfl)
    · replace H := (gm_ite H).2 c5
      refine go_aload dX11_holds_30 rfl ?_
      refine go_iloadn dX11_holds_32 rfl ?_
      obtain ⟨c7, x5, ex5, H⟩ := gm_rc H
      refine go_callV (vs := [aI v3]) (stk := []) (o1 := (some (aI x5), h)) mk_X6_has sv_X11_holds_239 cl_X6 rfl dX11_holds_33 c7 rfl rfl (Nat.le_of_ble_eq_true rfl) (Nat.le_of_ble_eq_true rfl) (ok_X6_has ex5) (show Go M_X11_holds (some (aI r.1), r.2) 36 [some (aA v0), some (aI v1), some (aI v2), some (aI v3), some (aI v4), some (aI v5), some (aA x2), some (aA x4)] [aI x5] h from ?_)
      refine go_if_eq (tgt := 51) dX11_holds_36 (by decide) (fun c8 => ?_) (fun c8 => ?_)
      · replace H := (gm_ite H).1 c8
        refine go_iconst (v := (-1 : Int32)) dX11_holds_51 rfl ?_
        obtain rfl := Option.some.inj H
        exact go_ireturn dX11_holds_52 (tyI_int rfl)
      · replace H := (gm_ite H).2 c8
        refine go_aload dX11_holds_39 rfl ?_
        refine go_iload dX11_holds_41 rfl ?_
        refine go_iload dX11_holds_43 rfl ?_
        obtain ⟨c9, x6, ex6, H⟩ := gm_rc H
        refine go_callV (vs := [aI v4, aI v5]) (stk := []) (o1 := (some (aI x6), h)) mk_X0_hasVersion sv_X11_holds_140 cl_X0 rfl dX11_holds_45 c9 rfl rfl (Nat.le_of_ble_eq_true rfl) (Nat.le_of_ble_eq_true rfl) (ok_X0_hasVersion ex6) (show Go M_X11_holds (some (aI r.1), r.2) 48 [some (aA v0), some (aI v1), some (aI v2), some (aI v3), some (aI v4), some (aI v5), some (aA x2), some (aA x4)] [aI x6] h from ?_)
        refine go_if_ne (tgt := 53) dX11_holds_48 (by decide) (fun c10 => ?_) (fun c10 => ?_)
        · replace H := (gm_ite H).1 c10
          refine go_aloadn dX11_holds_53 rfl ?_
          refine gm_getR fd_X11_37 dX11_holds_54 H (fun x7 H => ?_)
          refine go_aload dX11_holds_57 rfl ?_
          refine go_aload dX11_holds_59 rfl ?_
          refine go_iloadn dX11_holds_61 rfl ?_
          obtain ⟨c11, x8, ex8, H⟩ := gm_rc H
          refine go_callV (vs := [aA x2, aA x4, aI v3]) (stk := []) (o1 := (none, x8)) mk_X8_look sv_X11_holds_254 cl_X8 rfl dX11_holds_62 c11 rfl rfl (Nat.le_of_ble_eq_true rfl) (Nat.le_of_ble_eq_true rfl) (ok_X8_look ex8) (show Go M_X11_holds (some (aI r.1), r.2) 65 [some (aA v0), some (aI v1), some (aI v2), some (aI v3), some (aI v4), some (aI v5), some (aA x2), some (aA x4)] [] x8 from ?_)
          refine go_aloadn dX11_holds_65 rfl ?_
          refine gm_getR fd_X11_37 dX11_holds_66 H (fun x9 H => ?_)
          refine go_iloadn dX11_holds_69 rfl ?_
          refine go_iload dX11_holds_70 rfl ?_
          obtain ⟨c12, x10, ex10, H⟩ := gm_rc H
          refine go_callV (vs := [aI v3, aI v4]) (stk := []) (o1 := (some (aI x10), x8)) mk_X8_held sv_X11_holds_258 cl_X8 rfl dX11_holds_72 c12 rfl rfl (Nat.le_of_ble_eq_true rfl) (Nat.le_of_ble_eq_true rfl) (ok_X8_held ex10) (show Go M_X11_holds (some (aI r.1), r.2) 75 [some (aA v0), some (aI v1), some (aI v2), some (aI v3), some (aI v4), some (aI v5), some (aA x2), some (aA x4)] [aI x10] x8 from ?_)
          refine go_iload dX11_holds_75 rfl ?_
          obtain ⟨x11, ex11, H⟩ := bind_some H
          refine go_callS (vs := [aI x10, aI v5]) (stk := []) (o1 := (some (aI x11), x8)) mk_X5_bit ss_X11_holds_261 dX11_holds_77 rfl rfl (Nat.le_of_ble_eq_true rfl) (Nat.le_of_ble_eq_true rfl) (ok_X5_bit ex11) (show Go M_X11_holds (some (aI r.1), r.2) 80 [some (aA v0), some (aI v1), some (aI v2), some (aI v3), some (aI v4), some (aI v5), some (aA x2), some (aA x4)] [aI x11] x8 from ?_)
          obtain rfl := Option.some.inj H
          exact go_ireturn dX11_holds_80 (tyI_int rfl)
        · replace H := (gm_ite H).2 c10
          refine go_iconst (v := (-1 : Int32)) dX11_holds_51 rfl ?_
          obtain rfl := Option.some.inj H
          exact go_ireturn dX11_holds_52 (tyI_int rfl)
/-! X12_beginsAt -/
def j_X12_beginsAt_72 (v0 : Nat) (v1 : Int32) (v2 : Int32) (v3 : Int32) (v4 : Int32) (v5 : Int32) (v7 : Int32) (s0 : Int32) (h : Hp) (K80 : Int32 → Option Int32) (k : Int32 → Int32 → Option Int32) : Option Int32 :=
  k s0 (v7 + (1 : Int32))
set_option maxRecDepth 20000 in
theorem okj_X12_beginsAt_72 {r : Int32} (v0 : Nat) (v1 : Int32) (v2 : Int32) (v3 : Int32) (v4 : Int32) (v5 : Int32) (v7 : Int32) (s0 : Int32) (h : Hp) (K80 : Int32 → Option Int32) (k : Int32 → Int32 → Option Int32) (HK80 : ∀ (v6q : Int32) , K80 v6q = some r → Go M_X12_beginsAt (some (aI r), h) 80 [none, none, none, none, none, none, some (aI v6q), none] [] h) (Hk : ∀ (v6q : Int32) (v7q : Int32), k v6q v7q = some r → Go M_X12_beginsAt (some (aI r), h) 32 [some (aA v0), some (aI v1), some (aI v2), some (aI v3), some (aI v4), some (aI v5), some (aI v6q), some (aI v7q)] [] h) (H : j_X12_beginsAt_72 v0 v1 v2 v3 v4 v5 v7 s0 h K80 k = some r) : Go M_X12_beginsAt (some (aI r), h) 72 [some (aA v0), some (aI v1), some (aI v2), some (aI v3), some (aI v4), some (aI v5), none, some (aI v7)] [aI s0] h := by
  unfold j_X12_beginsAt_72 at H
  refine go_istore (loc2 := [some (aA v0), some (aI v1), some (aI v2), some (aI v3), some (aI v4), some (aI v5), some (aI s0), some (aI v7)]) dX12_beginsAt_72 (by decide) rfl ?_
  refine go_iinc (v := (v7 + (1 : Int32))) (loc2 := [some (aA v0), some (aI v1), some (aI v2), some (aI v3), some (aI v4), some (aI v5), some (aI s0), some (aI (v7 + (1 : Int32)))]) dX12_beginsAt_74 rfl rfl (by decide) rfl ?_
  refine go_goto (tgt := 32) dX12_beginsAt_77 (by decide) ?_
  exact Hk s0 (v7 + (1 : Int32)) H
def b_X12_beginsAt_32 (v0 : Nat) (v1 : Int32) (v2 : Int32) (v3 : Int32) (v4 : Int32) (v5 : Int32) (h : Hp) (K80 : Int32 → Option Int32) (k : Int32 → Int32 → Option Int32) (v6 : Int32) (v7 : Int32) : Option Int32 :=
  if v5 ≤ v7 then K80 v6 else if v6 = 0 then K80 v6 else (rc h v0 12 (m_X12_wordAt v0 v2 v3 (v4 + v7) h)).bind fun x1 => (rc h v0 12 (m_X12_ofAsking v0 v1 ((3 : Int32) + v7) h)).bind fun x2 => j_X12_beginsAt_72 v0 v1 v2 v3 v4 v5 v7 (if ¬ x1 = x2 then (0 : Int32) else (1 : Int32)) h K80 k
set_option maxRecDepth 20000 in
theorem okb_X12_beginsAt_32 {r : Int32} (v0 : Nat) (v1 : Int32) (v2 : Int32) (v3 : Int32) (v4 : Int32) (v5 : Int32) (h : Hp) (K80 : Int32 → Option Int32) (k : Int32 → Int32 → Option Int32) (v6 : Int32) (v7 : Int32) (HK80 : ∀ (v6q : Int32) , K80 v6q = some r → Go M_X12_beginsAt (some (aI r), h) 80 [none, none, none, none, none, none, some (aI v6q), none] [] h) (Hk : ∀ (v6q : Int32) (v7q : Int32), k v6q v7q = some r → Go M_X12_beginsAt (some (aI r), h) 32 [some (aA v0), some (aI v1), some (aI v2), some (aI v3), some (aI v4), some (aI v5), some (aI v6q), some (aI v7q)] [] h) (H : b_X12_beginsAt_32 v0 v1 v2 v3 v4 v5 h K80 k v6 v7 = some r) : Go M_X12_beginsAt (some (aI r), h) 32 [some (aA v0), some (aI v1), some (aI v2), some (aI v3), some (aI v4), some (aI v5), some (aI v6), some (aI v7)] [] h := by
  unfold b_X12_beginsAt_32 at H
  refine go_iload dX12_beginsAt_32 rfl ?_
  refine go_iload dX12_beginsAt_34 rfl ?_
  refine go_icmp_ge (tgt := 80) dX12_beginsAt_36 (by decide) (fun c1 => ?_) (fun c1 => ?_)
  · replace H := (gm_ite H).1 c1
    refine go_mask [false, false, false, false, false, false, true, false] (loc' := [none, none, none, none, none, none, some (aI v6), none]) rfl ?_
    exact HK80 v6 H
  · replace H := (gm_ite H).2 c1
    refine go_iload dX12_beginsAt_39 rfl ?_
    refine go_if_eq (tgt := 80) dX12_beginsAt_41 (by decide) (fun c2 => ?_) (fun c2 => ?_)
    · replace H := (gm_ite H).1 c2
      refine go_mask [false, false, false, false, false, false, true, false] (loc' := [none, none, none, none, none, none, some (aI v6), none]) rfl ?_
      exact HK80 v6 H
    · replace H := (gm_ite H).2 c2
      refine go_aloadn dX12_beginsAt_44 rfl ?_
      refine go_iloadn dX12_beginsAt_45 rfl ?_
      refine go_iloadn dX12_beginsAt_46 rfl ?_
      refine go_iload dX12_beginsAt_47 rfl ?_
      refine go_iload dX12_beginsAt_49 rfl ?_
      refine go_iadd dX12_beginsAt_51 ?_
      obtain ⟨c3, x1, ex1, H⟩ := gm_rc H
      refine go_callV (vs := [aI v2, aI v3, aI (v4 + v7)]) (stk := []) (o1 := (some (aI x1), h)) mk_X12_wordAt sv_X12_beginsAt_275 cl_X12 rfl dX12_beginsAt_52 c3 rfl rfl (Nat.le_of_ble_eq_true rfl) (Nat.le_of_ble_eq_true rfl) (ok_X12_wordAt ex1) (show Go M_X12_beginsAt (some (aI r), h) 55 [some (aA v0), some (aI v1), some (aI v2), some (aI v3), some (aI v4), some (aI v5), some (aI v6), some (aI v7)] [aI x1] h from ?_)
      refine go_aloadn dX12_beginsAt_55 rfl ?_
      refine go_iloadn dX12_beginsAt_56 rfl ?_
      refine go_iconst (v := (3 : Int32)) dX12_beginsAt_57 rfl ?_
      refine go_iload dX12_beginsAt_58 rfl ?_
      refine go_iadd dX12_beginsAt_60 ?_
      obtain ⟨c4, x2, ex2, H⟩ := gm_rc H
      refine go_callV (vs := [aI v1, aI ((3 : Int32) + v7)]) (stk := [aI x1]) (o1 := (some (aI x2), h)) mk_X12_ofAsking sv_X12_beginsAt_371 cl_X12 rfl dX12_beginsAt_61 c4 rfl rfl (Nat.le_of_ble_eq_true rfl) (Nat.le_of_ble_eq_true rfl) (ok_X12_ofAsking ex2) (show Go M_X12_beginsAt (some (aI r), h) 64 [some (aA v0), some (aI v1), some (aI v2), some (aI v3), some (aI v4), some (aI v5), some (aI v6), some (aI v7)] [aI x2, aI x1] h from ?_)
      refine go_icmp_ne (tgt := 71) dX12_beginsAt_64 (by decide) (fun c5 => ?_) (fun c5 => ?_)
      · rw [if_pos c5] at H
        refine go_iconst (v := (0 : Int32)) dX12_beginsAt_71 rfl ?_
        refine go_mask [true, true, true, true, true, true, false, true] (loc' := [some (aA v0), some (aI v1), some (aI v2), some (aI v3), some (aI v4), some (aI v5), none, some (aI v7)]) rfl ?_
        exact okj_X12_beginsAt_72 v0 v1 v2 v3 v4 v5 v7 (0 : Int32) h K80 k HK80 Hk H
      · rw [if_neg c5] at H
        refine go_iconst (v := (1 : Int32)) dX12_beginsAt_67 rfl ?_
        refine go_goto (tgt := 72) dX12_beginsAt_68 (by decide) ?_
        refine go_mask [true, true, true, true, true, true, false, true] (loc' := [some (aA v0), some (aI v1), some (aI v2), some (aI v3), some (aI v4), some (aI v5), none, some (aI v7)]) rfl ?_
        exact okj_X12_beginsAt_72 v0 v1 v2 v3 v4 v5 v7 (1 : Int32) h K80 k HK80 Hk H
def l_X12_beginsAt_32 (v0 : Nat) (v1 : Int32) (v2 : Int32) (v3 : Int32) (v4 : Int32) (v5 : Int32) (h : Hp) (K80 : Int32 → Option Int32) (v6 : Int32) (v7 : Int32) : Option Int32 := loopK FUEL (fun (k : Int32 × Int32 → Option Int32) (s : Int32 × Int32) => b_X12_beginsAt_32 v0 v1 v2 v3 v4 v5 h K80 (fun v6q v7q => k (v6q, v7q)) s.1 s.2) (v6, v7)
theorem okl_X12_beginsAt_32 {r : Int32} (v0 : Nat) (v1 : Int32) (v2 : Int32) (v3 : Int32) (v4 : Int32) (v5 : Int32) (h : Hp) (K80 : Int32 → Option Int32) (v6 : Int32) (v7 : Int32) (HK80 : ∀ (v6q : Int32) , K80 v6q = some r → Go M_X12_beginsAt (some (aI r), h) 80 [none, none, none, none, none, none, some (aI v6q), none] [] h) (H : l_X12_beginsAt_32 v0 v1 v2 v3 v4 v5 h K80 v6 v7 = some r) : Go M_X12_beginsAt (some (aI r), h) 32 [some (aA v0), some (aI v1), some (aI v2), some (aI v3), some (aI v4), some (aI v5), some (aI v6), some (aI v7)] [] h := by
  unfold l_X12_beginsAt_32 at H
  exact go_loop (σ := Int32 × Int32) (body := (fun (k : Int32 × Int32 → Option Int32) (s : Int32 × Int32) => b_X12_beginsAt_32 v0 v1 v2 v3 v4 v5 h K80 (fun v6q v7q => k (v6q, v7q)) s.1 s.2)) (fun s => [some (aA v0), some (aI v1), some (aI v2), some (aI v3), some (aI v4), some (aI v5), some (aI s.1), some (aI s.2)]) (fun s => h) (fun k s Hk H => okb_X12_beginsAt_32 v0 v1 v2 v3 v4 v5 h K80 (fun v6q v7q => k (v6q, v7q)) s.1 s.2 HK80 (fun v6q v7q H => Hk (v6q, v7q) H) H) FUEL (v6, v7) H
def j_X12_beginsAt_80 (v6 : Int32)  (h : Hp) : Option Int32 :=
  (zb v6).bind fun x1 => some x1
set_option maxRecDepth 20000 in
theorem okj_X12_beginsAt_80 {r : Int32} (v6 : Int32)  (h : Hp) (H : j_X12_beginsAt_80 v6 h = some r) : Go M_X12_beginsAt (some (aI r), h) 80 [none, none, none, none, none, none, some (aI v6), none] [] h := by
  unfold j_X12_beginsAt_80 at H
  refine go_iload dX12_beginsAt_80 rfl ?_
  obtain ⟨hz, H⟩ := gm_zb H
  obtain rfl := Option.some.inj H
  exact go_ireturn (x := v6) dX12_beginsAt_82 (tyI_bool rfl hz)
def j_X12_beginsAt_27 (v0 : Nat) (v1 : Int32) (v2 : Int32) (v3 : Int32) (v4 : Int32) (v5 : Int32) (s0 : Int32) (h : Hp) : Option Int32 :=
  l_X12_beginsAt_32 v0 v1 v2 v3 v4 v5 h (fun a1_6 => j_X12_beginsAt_80 a1_6 h) s0 (0 : Int32)
set_option maxRecDepth 20000 in
theorem okj_X12_beginsAt_27 {r : Int32} (v0 : Nat) (v1 : Int32) (v2 : Int32) (v3 : Int32) (v4 : Int32) (v5 : Int32) (s0 : Int32) (h : Hp) (H : j_X12_beginsAt_27 v0 v1 v2 v3 v4 v5 s0 h = some r) : Go M_X12_beginsAt (some (aI r), h) 27 [some (aA v0), some (aI v1), some (aI v2), some (aI v3), some (aI v4), some (aI v5), none, none] [aI s0] h := by
  unfold j_X12_beginsAt_27 at H
  refine go_istore (loc2 := [some (aA v0), some (aI v1), some (aI v2), some (aI v3), some (aI v4), some (aI v5), some (aI s0), none]) dX12_beginsAt_27 (by decide) rfl ?_
  refine go_iconst (v := (0 : Int32)) dX12_beginsAt_29 rfl ?_
  refine go_istore (loc2 := [some (aA v0), some (aI v1), some (aI v2), some (aI v3), some (aI v4), some (aI v5), some (aI s0), some (aI (0 : Int32))]) dX12_beginsAt_30 (by decide) rfl ?_
  refine okl_X12_beginsAt_32 v0 v1 v2 v3 v4 v5 h (fun a1_6 => j_X12_beginsAt_80 a1_6 h) s0 (0 : Int32) ?_ H
  · intro a1_6 H
    exact okj_X12_beginsAt_80 a1_6 h  H
def m_X12_beginsAt (v0 : Nat) (v1 : Int32) (v2 : Int32) (v3 : Int32) (v4 : Int32) (h : Hp) : Option Int32 :=
  (rc h v0 12 (m_X12_ofAsking v0 v1 (1 : Int32) h)).bind fun x1 => (rc h v0 12 (m_X12_longOf v0 v2 v3 h)).bind fun x2 => j_X12_beginsAt_27 v0 v1 v2 v3 v4 x1 (if x2 < (v4 + x1) then (0 : Int32) else (1 : Int32)) h
set_option maxRecDepth 20000 in
theorem ok_X12_beginsAt {r : Int32} {v0 : Nat} {v1 : Int32} {v2 : Int32} {v3 : Int32} {v4 : Int32} {h : Hp} (H : m_X12_beginsAt v0 v1 v2 v3 v4 h = some r) : Ev M_X12_beginsAt [aA v0, aI v1, aI v2, aI v3, aI v4] h (some (aI r), h) := by
  show Go M_X12_beginsAt (some (aI r), h) 0 [some (aA v0), some (aI v1), some (aI v2), some (aI v3), some (aI v4), none, none, none] [] h
  unfold m_X12_beginsAt at H
  refine go_aloadn dX12_beginsAt_0 rfl ?_
  refine go_iloadn dX12_beginsAt_1 rfl ?_
  refine go_iconst (v := (1 : Int32)) dX12_beginsAt_2 rfl ?_
  obtain ⟨c1, x1, ex1, H⟩ := gm_rc H
  refine go_callV (vs := [aI v1, aI (1 : Int32)]) (stk := []) (o1 := (some (aI x1), h)) mk_X12_ofAsking sv_X12_beginsAt_371 cl_X12 rfl dX12_beginsAt_3 c1 rfl rfl (Nat.le_of_ble_eq_true rfl) (Nat.le_of_ble_eq_true rfl) (ok_X12_ofAsking ex1) (show Go M_X12_beginsAt (some (aI r), h) 6 [some (aA v0), some (aI v1), some (aI v2), some (aI v3), some (aI v4), none, none, none] [aI x1] h from ?_)
  refine go_istore (loc2 := [some (aA v0), some (aI v1), some (aI v2), some (aI v3), some (aI v4), some (aI x1), none, none]) dX12_beginsAt_6 (by decide) rfl ?_
  refine go_iload dX12_beginsAt_8 rfl ?_
  refine go_iload dX12_beginsAt_10 rfl ?_
  refine go_iadd dX12_beginsAt_12 ?_
  refine go_aloadn dX12_beginsAt_13 rfl ?_
  refine go_iloadn dX12_beginsAt_14 rfl ?_
  refine go_iloadn dX12_beginsAt_15 rfl ?_
  obtain ⟨c2, x2, ex2, H⟩ := gm_rc H
  refine go_callV (vs := [aI v2, aI v3]) (stk := [aI (v4 + x1)]) (o1 := (some (aI x2), h)) mk_X12_longOf sv_X12_beginsAt_269 cl_X12 rfl dX12_beginsAt_16 c2 rfl rfl (Nat.le_of_ble_eq_true rfl) (Nat.le_of_ble_eq_true rfl) (ok_X12_longOf ex2) (show Go M_X12_beginsAt (some (aI r), h) 19 [some (aA v0), some (aI v1), some (aI v2), some (aI v3), some (aI v4), some (aI x1), none, none] [aI x2, aI (v4 + x1)] h from ?_)
  refine go_icmp_gt (tgt := 26) dX12_beginsAt_19 (by decide) (fun c3 => ?_) (fun c3 => ?_)
  · rw [if_pos c3] at H
    refine go_iconst (v := (0 : Int32)) dX12_beginsAt_26 rfl ?_
    exact okj_X12_beginsAt_27 v0 v1 v2 v3 v4 x1 (0 : Int32) h  H
  · rw [if_neg c3] at H
    refine go_iconst (v := (1 : Int32)) dX12_beginsAt_22 rfl ?_
    refine go_goto (tgt := 27) dX12_beginsAt_23 (by decide) ?_
    exact okj_X12_beginsAt_27 v0 v1 v2 v3 v4 x1 (1 : Int32) h  H
/-! X12_timesOf -/
def j_X12_timesOf_36 (v0 : Nat) (v1 : Int32) (v2 : Int32) (v3 : Int32) (v5 : Int32) (s0 : Int32) (s1 : Int32) (h : Hp) (k : Int32 → Int32 → Option Int32) : Option Int32 :=
  k (s0 + s1) (v5 + (1 : Int32))
set_option maxRecDepth 20000 in
theorem okj_X12_timesOf_36 {r : Int32} (v0 : Nat) (v1 : Int32) (v2 : Int32) (v3 : Int32) (v5 : Int32) (s0 : Int32) (s1 : Int32) (h : Hp) (k : Int32 → Int32 → Option Int32) (Hk : ∀ (v4q : Int32) (v5q : Int32), k v4q v5q = some r → Go M_X12_timesOf (some (aI r), h) 6 [some (aA v0), some (aI v1), some (aI v2), some (aI v3), some (aI v4q), some (aI v5q)] [] h) (H : j_X12_timesOf_36 v0 v1 v2 v3 v5 s0 s1 h k = some r) : Go M_X12_timesOf (some (aI r), h) 36 [some (aA v0), some (aI v1), some (aI v2), some (aI v3), none, some (aI v5)] [aI s1, aI s0] h := by
  unfold j_X12_timesOf_36 at H
  refine go_iadd dX12_timesOf_36 ?_
  refine go_istore (loc2 := [some (aA v0), some (aI v1), some (aI v2), some (aI v3), some (aI (s0 + s1)), some (aI v5)]) dX12_timesOf_37 (by decide) rfl ?_
  refine go_iinc (v := (v5 + (1 : Int32))) (loc2 := [some (aA v0), some (aI v1), some (aI v2), some (aI v3), some (aI (s0 + s1)), some (aI (v5 + (1 : Int32)))]) dX12_timesOf_39 rfl rfl (by decide) rfl ?_
  refine go_goto (tgt := 6) dX12_timesOf_42 (by decide) ?_
  exact Hk (s0 + s1) (v5 + (1 : Int32)) H
def b_X12_timesOf_6 (v0 : Nat) (v1 : Int32) (v2 : Int32) (v3 : Int32) (h : Hp) (k : Int32 → Int32 → Option Int32) (v4 : Int32) (v5 : Int32) : Option Int32 :=
  (rc h v0 12 (m_X12_longOf v0 v2 v3 h)).bind fun x1 => if x1 ≤ v5 then (some v4) else (rc h v0 12 (m_X12_beginsAt v0 v1 v2 v3 v5 h)).bind fun x2 => j_X12_timesOf_36 v0 v1 v2 v3 v5 v4 (if x2 = 0 then (0 : Int32) else (1 : Int32)) h k
set_option maxRecDepth 20000 in
theorem okb_X12_timesOf_6 {r : Int32} (v0 : Nat) (v1 : Int32) (v2 : Int32) (v3 : Int32) (h : Hp) (k : Int32 → Int32 → Option Int32) (v4 : Int32) (v5 : Int32) (Hk : ∀ (v4q : Int32) (v5q : Int32), k v4q v5q = some r → Go M_X12_timesOf (some (aI r), h) 6 [some (aA v0), some (aI v1), some (aI v2), some (aI v3), some (aI v4q), some (aI v5q)] [] h) (H : b_X12_timesOf_6 v0 v1 v2 v3 h k v4 v5 = some r) : Go M_X12_timesOf (some (aI r), h) 6 [some (aA v0), some (aI v1), some (aI v2), some (aI v3), some (aI v4), some (aI v5)] [] h := by
  unfold b_X12_timesOf_6 at H
  refine go_iload dX12_timesOf_6 rfl ?_
  refine go_aloadn dX12_timesOf_8 rfl ?_
  refine go_iloadn dX12_timesOf_9 rfl ?_
  refine go_iloadn dX12_timesOf_10 rfl ?_
  obtain ⟨c1, x1, ex1, H⟩ := gm_rc H
  refine go_callV (vs := [aI v2, aI v3]) (stk := [aI v5]) (o1 := (some (aI x1), h)) mk_X12_longOf sv_X12_timesOf_269 cl_X12 rfl dX12_timesOf_11 c1 rfl rfl (Nat.le_of_ble_eq_true rfl) (Nat.le_of_ble_eq_true rfl) (ok_X12_longOf ex1) (show Go M_X12_timesOf (some (aI r), h) 14 [some (aA v0), some (aI v1), some (aI v2), some (aI v3), some (aI v4), some (aI v5)] [aI x1, aI v5] h from ?_)
  refine go_icmp_ge (tgt := 45) dX12_timesOf_14 (by decide) (fun c2 => ?_) (fun c2 => ?_)
  · replace H := (gm_ite H).1 c2
    refine go_iload dX12_timesOf_45 rfl ?_
    obtain rfl := Option.some.inj H
    exact go_ireturn dX12_timesOf_47 (tyI_int rfl)
  · replace H := (gm_ite H).2 c2
    refine go_iload dX12_timesOf_17 rfl ?_
    refine go_aloadn dX12_timesOf_19 rfl ?_
    refine go_iloadn dX12_timesOf_20 rfl ?_
    refine go_iloadn dX12_timesOf_21 rfl ?_
    refine go_iloadn dX12_timesOf_22 rfl ?_
    refine go_iload dX12_timesOf_23 rfl ?_
    obtain ⟨c3, x2, ex2, H⟩ := gm_rc H
    refine go_callV (vs := [aI v1, aI v2, aI v3, aI v5]) (stk := [aI v4]) (o1 := (some (aI x2), h)) mk_X12_beginsAt sv_X12_timesOf_383 cl_X12 rfl dX12_timesOf_25 c3 rfl rfl (Nat.le_of_ble_eq_true rfl) (Nat.le_of_ble_eq_true rfl) (ok_X12_beginsAt ex2) (show Go M_X12_timesOf (some (aI r), h) 28 [some (aA v0), some (aI v1), some (aI v2), some (aI v3), some (aI v4), some (aI v5)] [aI x2, aI v4] h from ?_)
    refine go_if_eq (tgt := 35) dX12_timesOf_28 (by decide) (fun c4 => ?_) (fun c4 => ?_)
    · rw [if_pos c4] at H
      refine go_iconst (v := (0 : Int32)) dX12_timesOf_35 rfl ?_
      refine go_mask [true, true, true, true, false, true] (loc' := [some (aA v0), some (aI v1), some (aI v2), some (aI v3), none, some (aI v5)]) rfl ?_
      exact okj_X12_timesOf_36 v0 v1 v2 v3 v5 v4 (0 : Int32) h k Hk H
    · rw [if_neg c4] at H
      refine go_iconst (v := (1 : Int32)) dX12_timesOf_31 rfl ?_
      refine go_goto (tgt := 36) dX12_timesOf_32 (by decide) ?_
      refine go_mask [true, true, true, true, false, true] (loc' := [some (aA v0), some (aI v1), some (aI v2), some (aI v3), none, some (aI v5)]) rfl ?_
      exact okj_X12_timesOf_36 v0 v1 v2 v3 v5 v4 (1 : Int32) h k Hk H
def l_X12_timesOf_6 (v0 : Nat) (v1 : Int32) (v2 : Int32) (v3 : Int32) (h : Hp) (v4 : Int32) (v5 : Int32) : Option Int32 := loopK FUEL (fun (k : Int32 × Int32 → Option Int32) (s : Int32 × Int32) => b_X12_timesOf_6 v0 v1 v2 v3 h (fun v4q v5q => k (v4q, v5q)) s.1 s.2) (v4, v5)
theorem okl_X12_timesOf_6 {r : Int32} (v0 : Nat) (v1 : Int32) (v2 : Int32) (v3 : Int32) (h : Hp) (v4 : Int32) (v5 : Int32) (H : l_X12_timesOf_6 v0 v1 v2 v3 h v4 v5 = some r) : Go M_X12_timesOf (some (aI r), h) 6 [some (aA v0), some (aI v1), some (aI v2), some (aI v3), some (aI v4), some (aI v5)] [] h := by
  unfold l_X12_timesOf_6 at H
  exact go_loop (σ := Int32 × Int32) (body := (fun (k : Int32 × Int32 → Option Int32) (s : Int32 × Int32) => b_X12_timesOf_6 v0 v1 v2 v3 h (fun v4q v5q => k (v4q, v5q)) s.1 s.2)) (fun s => [some (aA v0), some (aI v1), some (aI v2), some (aI v3), some (aI s.1), some (aI s.2)]) (fun s => h) (fun k s Hk H => okb_X12_timesOf_6 v0 v1 v2 v3 h (fun v4q v5q => k (v4q, v5q)) s.1 s.2  (fun v4q v5q H => Hk (v4q, v5q) H) H) FUEL (v4, v5) H
def m_X12_timesOf (v0 : Nat) (v1 : Int32) (v2 : Int32) (v3 : Int32) (h : Hp) : Option Int32 :=
  l_X12_timesOf_6 v0 v1 v2 v3 h (0 : Int32) (0 : Int32)
set_option maxRecDepth 20000 in
theorem ok_X12_timesOf {r : Int32} {v0 : Nat} {v1 : Int32} {v2 : Int32} {v3 : Int32} {h : Hp} (H : m_X12_timesOf v0 v1 v2 v3 h = some r) : Ev M_X12_timesOf [aA v0, aI v1, aI v2, aI v3] h (some (aI r), h) := by
  show Go M_X12_timesOf (some (aI r), h) 0 [some (aA v0), some (aI v1), some (aI v2), some (aI v3), none, none] [] h
  unfold m_X12_timesOf at H
  refine go_iconst (v := (0 : Int32)) dX12_timesOf_0 rfl ?_
  refine go_istore (loc2 := [some (aA v0), some (aI v1), some (aI v2), some (aI v3), some (aI (0 : Int32)), none]) dX12_timesOf_1 (by decide) rfl ?_
  refine go_iconst (v := (0 : Int32)) dX12_timesOf_3 rfl ?_
  refine go_istore (loc2 := [some (aA v0), some (aI v1), some (aI v2), some (aI v3), some (aI (0 : Int32)), some (aI (0 : Int32))]) dX12_timesOf_4 (by decide) rfl ?_
  exact okl_X12_timesOf_6 v0 v1 v2 v3 h (0 : Int32) (0 : Int32) H
/-! X12_areNear -/
def j_X12_areNear_112 (v0 : Nat) (v1 : Int32) (v2 : Int32) (v3 : Int32) (v5 : Int32) (v6 : Int32) (s0 : Int32) (h : Hp) (K120 : Int32 → Option Int32) (k : Int32 → Int32 → Option Int32) : Option Int32 :=
  k s0 (v6 + (1 : Int32))
set_option maxRecDepth 20000 in
theorem okj_X12_areNear_112 {r : Int32} (v0 : Nat) (v1 : Int32) (v2 : Int32) (v3 : Int32) (v5 : Int32) (v6 : Int32) (s0 : Int32) (h : Hp) (K120 : Int32 → Option Int32) (k : Int32 → Int32 → Option Int32) (HK120 : ∀ (v4q : Int32) , K120 v4q = some r → Go M_X12_areNear (some (aI r), h) 120 [some (aA v0), some (aI v1), some (aI v2), some (aI v3), some (aI v4q), some (aI v5), none, none] [] h) (Hk : ∀ (v4q : Int32) (v6q : Int32), k v4q v6q = some r → Go M_X12_areNear (some (aI r), h) 20 [some (aA v0), some (aI v1), some (aI v2), some (aI v3), some (aI v4q), some (aI v5), some (aI v6q), none] [] h) (H : j_X12_areNear_112 v0 v1 v2 v3 v5 v6 s0 h K120 k = some r) : Go M_X12_areNear (some (aI r), h) 112 [some (aA v0), some (aI v1), some (aI v2), some (aI v3), none, some (aI v5), some (aI v6), none] [aI s0] h := by
  unfold j_X12_areNear_112 at H
  refine go_istore (loc2 := [some (aA v0), some (aI v1), some (aI v2), some (aI v3), some (aI s0), some (aI v5), some (aI v6), none]) dX12_areNear_112 (by decide) rfl ?_
  refine go_iinc (v := (v6 + (1 : Int32))) (loc2 := [some (aA v0), some (aI v1), some (aI v2), some (aI v3), some (aI s0), some (aI v5), some (aI (v6 + (1 : Int32))), none]) dX12_areNear_114 rfl rfl (by decide) rfl ?_
  refine go_goto (tgt := 20) dX12_areNear_117 (by decide) ?_
  exact Hk s0 (v6 + (1 : Int32)) H
def j_X12_areNear_51 (v0 : Nat) (v1 : Int32) (v2 : Int32) (v3 : Int32) (v4 : Int32) (v5 : Int32) (v6 : Int32) (s0 : Int32) (h : Hp) (K120 : Int32 → Option Int32) (k : Int32 → Int32 → Option Int32) : Option Int32 :=
  if ¬ v4 = 0 then j_X12_areNear_112 v0 v1 v2 v3 v5 v6 (1 : Int32) h K120 k else (rc h v0 12 (m_X12_ofAsking v0 v1 (1 : Int32) h)).bind fun x1 => (m_X12_in s0 (1 : Int32) x1 h).bind fun x2 => if x2 = 0 then j_X12_areNear_112 v0 v1 v2 v3 v5 v6 (0 : Int32) h K120 k else (rc h v0 12 (m_X12_wordAt v0 v2 v3 v5 h)).bind fun x3 => (rc h v0 12 (m_X12_ofAsking v0 v1 (3 : Int32) h)).bind fun x4 => if ¬ x3 = x4 then j_X12_areNear_112 v0 v1 v2 v3 v5 v6 (0 : Int32) h K120 k else (rc h v0 12 (m_X12_wordAt v0 v2 v3 v6 h)).bind fun x5 => (rc h v0 12 (m_X12_ofAsking v0 v1 (4 : Int32) h)).bind fun x6 => j_X12_areNear_112 v0 v1 v2 v3 v5 v6 (if ¬ x5 = x6 then (0 : Int32) else (1 : Int32)) h K120 k
set_option maxRecDepth 20000 in
theorem okj_X12_areNear_51 {r : Int32} (v0 : Nat) (v1 : Int32) (v2 : Int32) (v3 : Int32) (v4 : Int32) (v5 : Int32) (v6 : Int32) (s0 : Int32) (h : Hp) (K120 : Int32 → Option Int32) (k : Int32 → Int32 → Option Int32) (HK120 : ∀ (v4q : Int32) , K120 v4q = some r → Go M_X12_areNear (some (aI r), h) 120 [some (aA v0), some (aI v1), some (aI v2), some (aI v3), some (aI v4q), some (aI v5), none, none] [] h) (Hk : ∀ (v4q : Int32) (v6q : Int32), k v4q v6q = some r → Go M_X12_areNear (some (aI r), h) 20 [some (aA v0), some (aI v1), some (aI v2), some (aI v3), some (aI v4q), some (aI v5), some (aI v6q), none] [] h) (H : j_X12_areNear_51 v0 v1 v2 v3 v4 v5 v6 s0 h K120 k = some r) : Go M_X12_areNear (some (aI r), h) 51 [some (aA v0), some (aI v1), some (aI v2), some (aI v3), some (aI v4), some (aI v5), some (aI v6), none] [aI s0] h := by
  unfold j_X12_areNear_51 at H
  refine go_istore (loc2 := [some (aA v0), some (aI v1), some (aI v2), some (aI v3), some (aI v4), some (aI v5), some (aI v6), some (aI s0)]) dX12_areNear_51 (by decide) rfl ?_
  refine go_iload dX12_areNear_53 rfl ?_
  refine go_if_ne (tgt := 107) dX12_areNear_55 (by decide) (fun c1 => ?_) (fun c1 => ?_)
  · replace H := (gm_ite H).1 c1
    refine go_iconst (v := (1 : Int32)) dX12_areNear_107 rfl ?_
    refine go_goto (tgt := 112) dX12_areNear_108 (by decide) ?_
    refine go_mask [true, true, true, true, false, true, true, false] (loc' := [some (aA v0), some (aI v1), some (aI v2), some (aI v3), none, some (aI v5), some (aI v6), none]) rfl ?_
    exact okj_X12_areNear_112 v0 v1 v2 v3 v5 v6 (1 : Int32) h K120 k HK120 Hk H
  · replace H := (gm_ite H).2 c1
    refine go_iload dX12_areNear_58 rfl ?_
    refine go_iconst (v := (1 : Int32)) dX12_areNear_60 rfl ?_
    refine go_aloadn dX12_areNear_61 rfl ?_
    refine go_iloadn dX12_areNear_62 rfl ?_
    refine go_iconst (v := (1 : Int32)) dX12_areNear_63 rfl ?_
    obtain ⟨c2, x1, ex1, H⟩ := gm_rc H
    refine go_callV (vs := [aI v1, aI (1 : Int32)]) (stk := [aI (1 : Int32), aI s0]) (o1 := (some (aI x1), h)) mk_X12_ofAsking sv_X12_areNear_371 cl_X12 rfl dX12_areNear_64 c2 rfl rfl (Nat.le_of_ble_eq_true rfl) (Nat.le_of_ble_eq_true rfl) (ok_X12_ofAsking ex1) (show Go M_X12_areNear (some (aI r), h) 67 [some (aA v0), some (aI v1), some (aI v2), some (aI v3), some (aI v4), some (aI v5), some (aI v6), some (aI s0)] [aI x1, aI (1 : Int32), aI s0] h from ?_)
    obtain ⟨x2, ex2, H⟩ := bind_some H
    refine go_callS (vs := [aI s0, aI (1 : Int32), aI x1]) (stk := []) (o1 := (some (aI x2), h)) mk_X12_in ss_X12_areNear_72 dX12_areNear_67 rfl rfl (Nat.le_of_ble_eq_true rfl) (Nat.le_of_ble_eq_true rfl) (ok_X12_in ex2) (show Go M_X12_areNear (some (aI r), h) 70 [some (aA v0), some (aI v1), some (aI v2), some (aI v3), some (aI v4), some (aI v5), some (aI v6), some (aI s0)] [aI x2] h from ?_)
    refine go_if_eq (tgt := 111) dX12_areNear_70 (by decide) (fun c4 => ?_) (fun c4 => ?_)
    · replace H := (gm_ite H).1 c4
      refine go_iconst (v := (0 : Int32)) dX12_areNear_111 rfl ?_
      refine go_mask [true, true, true, true, false, true, true, false] (loc' := [some (aA v0), some (aI v1), some (aI v2), some (aI v3), none, some (aI v5), some (aI v6), none]) rfl ?_
      exact okj_X12_areNear_112 v0 v1 v2 v3 v5 v6 (0 : Int32) h K120 k HK120 Hk H
    · replace H := (gm_ite H).2 c4
      refine go_aloadn dX12_areNear_73 rfl ?_
      refine go_iloadn dX12_areNear_74 rfl ?_
      refine go_iloadn dX12_areNear_75 rfl ?_
      refine go_iload dX12_areNear_76 rfl ?_
      obtain ⟨c5, x3, ex3, H⟩ := gm_rc H
      refine go_callV (vs := [aI v2, aI v3, aI v5]) (stk := []) (o1 := (some (aI x3), h)) mk_X12_wordAt sv_X12_areNear_275 cl_X12 rfl dX12_areNear_78 c5 rfl rfl (Nat.le_of_ble_eq_true rfl) (Nat.le_of_ble_eq_true rfl) (ok_X12_wordAt ex3) (show Go M_X12_areNear (some (aI r), h) 81 [some (aA v0), some (aI v1), some (aI v2), some (aI v3), some (aI v4), some (aI v5), some (aI v6), some (aI s0)] [aI x3] h from ?_)
      refine go_aloadn dX12_areNear_81 rfl ?_
      refine go_iloadn dX12_areNear_82 rfl ?_
      refine go_iconst (v := (3 : Int32)) dX12_areNear_83 rfl ?_
      obtain ⟨c6, x4, ex4, H⟩ := gm_rc H
      refine go_callV (vs := [aI v1, aI (3 : Int32)]) (stk := [aI x3]) (o1 := (some (aI x4), h)) mk_X12_ofAsking sv_X12_areNear_371 cl_X12 rfl dX12_areNear_84 c6 rfl rfl (Nat.le_of_ble_eq_true rfl) (Nat.le_of_ble_eq_true rfl) (ok_X12_ofAsking ex4) (show Go M_X12_areNear (some (aI r), h) 87 [some (aA v0), some (aI v1), some (aI v2), some (aI v3), some (aI v4), some (aI v5), some (aI v6), some (aI s0)] [aI x4, aI x3] h from ?_)
      refine go_icmp_ne (tgt := 111) dX12_areNear_87 (by decide) (fun c7 => ?_) (fun c7 => ?_)
      · replace H := (gm_ite H).1 c7
        refine go_iconst (v := (0 : Int32)) dX12_areNear_111 rfl ?_
        refine go_mask [true, true, true, true, false, true, true, false] (loc' := [some (aA v0), some (aI v1), some (aI v2), some (aI v3), none, some (aI v5), some (aI v6), none]) rfl ?_
        exact okj_X12_areNear_112 v0 v1 v2 v3 v5 v6 (0 : Int32) h K120 k HK120 Hk H
      · replace H := (gm_ite H).2 c7
        refine go_aloadn dX12_areNear_90 rfl ?_
        refine go_iloadn dX12_areNear_91 rfl ?_
        refine go_iloadn dX12_areNear_92 rfl ?_
        refine go_iload dX12_areNear_93 rfl ?_
        obtain ⟨c8, x5, ex5, H⟩ := gm_rc H
        refine go_callV (vs := [aI v2, aI v3, aI v6]) (stk := []) (o1 := (some (aI x5), h)) mk_X12_wordAt sv_X12_areNear_275 cl_X12 rfl dX12_areNear_95 c8 rfl rfl (Nat.le_of_ble_eq_true rfl) (Nat.le_of_ble_eq_true rfl) (ok_X12_wordAt ex5) (show Go M_X12_areNear (some (aI r), h) 98 [some (aA v0), some (aI v1), some (aI v2), some (aI v3), some (aI v4), some (aI v5), some (aI v6), some (aI s0)] [aI x5] h from ?_)
        refine go_aloadn dX12_areNear_98 rfl ?_
        refine go_iloadn dX12_areNear_99 rfl ?_
        refine go_iconst (v := (4 : Int32)) dX12_areNear_100 rfl ?_
        obtain ⟨c9, x6, ex6, H⟩ := gm_rc H
        refine go_callV (vs := [aI v1, aI (4 : Int32)]) (stk := [aI x5]) (o1 := (some (aI x6), h)) mk_X12_ofAsking sv_X12_areNear_371 cl_X12 rfl dX12_areNear_101 c9 rfl rfl (Nat.le_of_ble_eq_true rfl) (Nat.le_of_ble_eq_true rfl) (ok_X12_ofAsking ex6) (show Go M_X12_areNear (some (aI r), h) 104 [some (aA v0), some (aI v1), some (aI v2), some (aI v3), some (aI v4), some (aI v5), some (aI v6), some (aI s0)] [aI x6, aI x5] h from ?_)
        refine go_icmp_ne (tgt := 111) dX12_areNear_104 (by decide) (fun c10 => ?_) (fun c10 => ?_)
        · rw [if_pos c10] at H
          refine go_iconst (v := (0 : Int32)) dX12_areNear_111 rfl ?_
          refine go_mask [true, true, true, true, false, true, true, false] (loc' := [some (aA v0), some (aI v1), some (aI v2), some (aI v3), none, some (aI v5), some (aI v6), none]) rfl ?_
          exact okj_X12_areNear_112 v0 v1 v2 v3 v5 v6 (0 : Int32) h K120 k HK120 Hk H
        · rw [if_neg c10] at H
          refine go_iconst (v := (1 : Int32)) dX12_areNear_107 rfl ?_
          refine go_goto (tgt := 112) dX12_areNear_108 (by decide) ?_
          refine go_mask [true, true, true, true, false, true, true, false] (loc' := [some (aA v0), some (aI v1), some (aI v2), some (aI v3), none, some (aI v5), some (aI v6), none]) rfl ?_
          exact okj_X12_areNear_112 v0 v1 v2 v3 v5 v6 (1 : Int32) h K120 k HK120 Hk H
def b_X12_areNear_20 (v0 : Nat) (v1 : Int32) (v2 : Int32) (v3 : Int32) (v5 : Int32) (h : Hp) (K120 : Int32 → Option Int32) (k : Int32 → Int32 → Option Int32) (v4 : Int32) (v6 : Int32) : Option Int32 :=
  (rc h v0 12 (m_X12_longOf v0 v2 v3 h)).bind fun x1 => if x1 ≤ v6 then K120 v4 else if v6 ≤ v5 then (j_X12_areNear_51 v0 v1 v2 v3 v4 v5 v6 (v5 - v6) h K120 k) else j_X12_areNear_51 v0 v1 v2 v3 v4 v5 v6 (v6 - v5) h K120 k
set_option maxRecDepth 20000 in
theorem okb_X12_areNear_20 {r : Int32} (v0 : Nat) (v1 : Int32) (v2 : Int32) (v3 : Int32) (v5 : Int32) (h : Hp) (K120 : Int32 → Option Int32) (k : Int32 → Int32 → Option Int32) (v4 : Int32) (v6 : Int32) (HK120 : ∀ (v4q : Int32) , K120 v4q = some r → Go M_X12_areNear (some (aI r), h) 120 [some (aA v0), some (aI v1), some (aI v2), some (aI v3), some (aI v4q), some (aI v5), none, none] [] h) (Hk : ∀ (v4q : Int32) (v6q : Int32), k v4q v6q = some r → Go M_X12_areNear (some (aI r), h) 20 [some (aA v0), some (aI v1), some (aI v2), some (aI v3), some (aI v4q), some (aI v5), some (aI v6q), none] [] h) (H : b_X12_areNear_20 v0 v1 v2 v3 v5 h K120 k v4 v6 = some r) : Go M_X12_areNear (some (aI r), h) 20 [some (aA v0), some (aI v1), some (aI v2), some (aI v3), some (aI v4), some (aI v5), some (aI v6), none] [] h := by
  unfold b_X12_areNear_20 at H
  refine go_iload dX12_areNear_20 rfl ?_
  refine go_aloadn dX12_areNear_22 rfl ?_
  refine go_iloadn dX12_areNear_23 rfl ?_
  refine go_iloadn dX12_areNear_24 rfl ?_
  obtain ⟨c1, x1, ex1, H⟩ := gm_rc H
  refine go_callV (vs := [aI v2, aI v3]) (stk := [aI v6]) (o1 := (some (aI x1), h)) mk_X12_longOf sv_X12_areNear_269 cl_X12 rfl dX12_areNear_25 c1 rfl rfl (Nat.le_of_ble_eq_true rfl) (Nat.le_of_ble_eq_true rfl) (ok_X12_longOf ex1) (show Go M_X12_areNear (some (aI r), h) 28 [some (aA v0), some (aI v1), some (aI v2), some (aI v3), some (aI v4), some (aI v5), some (aI v6), none] [aI x1, aI v6] h from ?_)
  refine go_icmp_ge (tgt := 120) dX12_areNear_28 (by decide) (fun c2 => ?_) (fun c2 => ?_)
  · replace H := (gm_ite H).1 c2
    refine go_mask [true, true, true, true, true, true, false, false] (loc' := [some (aA v0), some (aI v1), some (aI v2), some (aI v3), some (aI v4), some (aI v5), none, none]) rfl ?_
    exact HK120 v4 H
  · replace H := (gm_ite H).2 c2
    refine go_iload dX12_areNear_31 rfl ?_
    refine go_iload dX12_areNear_33 rfl ?_
    refine go_icmp_ge (tgt := 46) dX12_areNear_35 (by decide) (fun c3 => ?_) (fun c3 => ?_)
    · replace H := (gm_ite H).1 c3
      refine go_iload dX12_areNear_46 rfl ?_
      refine go_iload dX12_areNear_48 rfl ?_
      refine go_isub dX12_areNear_50 ?_
      exact okj_X12_areNear_51 v0 v1 v2 v3 v4 v5 v6 (v5 - v6) h K120 k HK120 Hk H
    · replace H := (gm_ite H).2 c3
      refine go_iload dX12_areNear_38 rfl ?_
      refine go_iload dX12_areNear_40 rfl ?_
      refine go_isub dX12_areNear_42 ?_
      refine go_goto (tgt := 51) dX12_areNear_43 (by decide) ?_
      exact okj_X12_areNear_51 v0 v1 v2 v3 v4 v5 v6 (v6 - v5) h K120 k HK120 Hk H
def l_X12_areNear_20 (v0 : Nat) (v1 : Int32) (v2 : Int32) (v3 : Int32) (v5 : Int32) (h : Hp) (K120 : Int32 → Option Int32) (v4 : Int32) (v6 : Int32) : Option Int32 := loopK FUEL (fun (k : Int32 × Int32 → Option Int32) (s : Int32 × Int32) => b_X12_areNear_20 v0 v1 v2 v3 v5 h K120 (fun v4q v6q => k (v4q, v6q)) s.1 s.2) (v4, v6)
theorem okl_X12_areNear_20 {r : Int32} (v0 : Nat) (v1 : Int32) (v2 : Int32) (v3 : Int32) (v5 : Int32) (h : Hp) (K120 : Int32 → Option Int32) (v4 : Int32) (v6 : Int32) (HK120 : ∀ (v4q : Int32) , K120 v4q = some r → Go M_X12_areNear (some (aI r), h) 120 [some (aA v0), some (aI v1), some (aI v2), some (aI v3), some (aI v4q), some (aI v5), none, none] [] h) (H : l_X12_areNear_20 v0 v1 v2 v3 v5 h K120 v4 v6 = some r) : Go M_X12_areNear (some (aI r), h) 20 [some (aA v0), some (aI v1), some (aI v2), some (aI v3), some (aI v4), some (aI v5), some (aI v6), none] [] h := by
  unfold l_X12_areNear_20 at H
  exact go_loop (σ := Int32 × Int32) (body := (fun (k : Int32 × Int32 → Option Int32) (s : Int32 × Int32) => b_X12_areNear_20 v0 v1 v2 v3 v5 h K120 (fun v4q v6q => k (v4q, v6q)) s.1 s.2)) (fun s => [some (aA v0), some (aI v1), some (aI v2), some (aI v3), some (aI s.1), some (aI v5), some (aI s.2), none]) (fun s => h) (fun k s Hk H => okb_X12_areNear_20 v0 v1 v2 v3 v5 h K120 (fun v4q v6q => k (v4q, v6q)) s.1 s.2 HK120 (fun v4q v6q H => Hk (v4q, v6q) H) H) FUEL (v4, v6) H
def j_X12_areNear_120 (v0 : Nat) (v1 : Int32) (v2 : Int32) (v3 : Int32) (v4 : Int32) (v5 : Int32)  (h : Hp) (K126 : Int32 → Option Int32) (k : Int32 → Int32 → Option Int32) : Option Int32 :=
  k v4 (v5 + (1 : Int32))
set_option maxRecDepth 20000 in
theorem okj_X12_areNear_120 {r : Int32} (v0 : Nat) (v1 : Int32) (v2 : Int32) (v3 : Int32) (v4 : Int32) (v5 : Int32)  (h : Hp) (K126 : Int32 → Option Int32) (k : Int32 → Int32 → Option Int32) (HK126 : ∀ (v4q : Int32) , K126 v4q = some r → Go M_X12_areNear (some (aI r), h) 126 [none, none, none, none, some (aI v4q), none, none, none] [] h) (Hk : ∀ (v4q : Int32) (v5q : Int32), k v4q v5q = some r → Go M_X12_areNear (some (aI r), h) 6 [some (aA v0), some (aI v1), some (aI v2), some (aI v3), some (aI v4q), some (aI v5q), none, none] [] h) (H : j_X12_areNear_120 v0 v1 v2 v3 v4 v5 h K126 k = some r) : Go M_X12_areNear (some (aI r), h) 120 [some (aA v0), some (aI v1), some (aI v2), some (aI v3), some (aI v4), some (aI v5), none, none] [] h := by
  unfold j_X12_areNear_120 at H
  refine go_iinc (v := (v5 + (1 : Int32))) (loc2 := [some (aA v0), some (aI v1), some (aI v2), some (aI v3), some (aI v4), some (aI (v5 + (1 : Int32))), none, none]) dX12_areNear_120 rfl rfl (by decide) rfl ?_
  refine go_goto (tgt := 6) dX12_areNear_123 (by decide) ?_
  exact Hk v4 (v5 + (1 : Int32)) H
def b_X12_areNear_6 (v0 : Nat) (v1 : Int32) (v2 : Int32) (v3 : Int32) (h : Hp) (K126 : Int32 → Option Int32) (k : Int32 → Int32 → Option Int32) (v4 : Int32) (v5 : Int32) : Option Int32 :=
  (rc h v0 12 (m_X12_longOf v0 v2 v3 h)).bind fun x1 => if x1 ≤ v5 then K126 v4 else l_X12_areNear_20 v0 v1 v2 v3 v5 h (fun a2_4 => j_X12_areNear_120 v0 v1 v2 v3 a2_4 v5 h K126 k) v4 (0 : Int32)
set_option maxRecDepth 20000 in
theorem okb_X12_areNear_6 {r : Int32} (v0 : Nat) (v1 : Int32) (v2 : Int32) (v3 : Int32) (h : Hp) (K126 : Int32 → Option Int32) (k : Int32 → Int32 → Option Int32) (v4 : Int32) (v5 : Int32) (HK126 : ∀ (v4q : Int32) , K126 v4q = some r → Go M_X12_areNear (some (aI r), h) 126 [none, none, none, none, some (aI v4q), none, none, none] [] h) (Hk : ∀ (v4q : Int32) (v5q : Int32), k v4q v5q = some r → Go M_X12_areNear (some (aI r), h) 6 [some (aA v0), some (aI v1), some (aI v2), some (aI v3), some (aI v4q), some (aI v5q), none, none] [] h) (H : b_X12_areNear_6 v0 v1 v2 v3 h K126 k v4 v5 = some r) : Go M_X12_areNear (some (aI r), h) 6 [some (aA v0), some (aI v1), some (aI v2), some (aI v3), some (aI v4), some (aI v5), none, none] [] h := by
  unfold b_X12_areNear_6 at H
  refine go_iload dX12_areNear_6 rfl ?_
  refine go_aloadn dX12_areNear_8 rfl ?_
  refine go_iloadn dX12_areNear_9 rfl ?_
  refine go_iloadn dX12_areNear_10 rfl ?_
  obtain ⟨c1, x1, ex1, H⟩ := gm_rc H
  refine go_callV (vs := [aI v2, aI v3]) (stk := [aI v5]) (o1 := (some (aI x1), h)) mk_X12_longOf sv_X12_areNear_269 cl_X12 rfl dX12_areNear_11 c1 rfl rfl (Nat.le_of_ble_eq_true rfl) (Nat.le_of_ble_eq_true rfl) (ok_X12_longOf ex1) (show Go M_X12_areNear (some (aI r), h) 14 [some (aA v0), some (aI v1), some (aI v2), some (aI v3), some (aI v4), some (aI v5), none, none] [aI x1, aI v5] h from ?_)
  refine go_icmp_ge (tgt := 126) dX12_areNear_14 (by decide) (fun c2 => ?_) (fun c2 => ?_)
  · replace H := (gm_ite H).1 c2
    refine go_mask [false, false, false, false, true, false, false, false] (loc' := [none, none, none, none, some (aI v4), none, none, none]) rfl ?_
    exact HK126 v4 H
  · replace H := (gm_ite H).2 c2
    refine go_iconst (v := (0 : Int32)) dX12_areNear_17 rfl ?_
    refine go_istore (loc2 := [some (aA v0), some (aI v1), some (aI v2), some (aI v3), some (aI v4), some (aI v5), some (aI (0 : Int32)), none]) dX12_areNear_18 (by decide) rfl ?_
    refine okl_X12_areNear_20 v0 v1 v2 v3 v5 h (fun a2_4 => j_X12_areNear_120 v0 v1 v2 v3 a2_4 v5 h K126 k) v4 (0 : Int32) ?_ H
    · intro a2_4 H
      exact okj_X12_areNear_120 v0 v1 v2 v3 a2_4 v5 h K126 k HK126 Hk H
def l_X12_areNear_6 (v0 : Nat) (v1 : Int32) (v2 : Int32) (v3 : Int32) (h : Hp) (K126 : Int32 → Option Int32) (v4 : Int32) (v5 : Int32) : Option Int32 := loopK FUEL (fun (k : Int32 × Int32 → Option Int32) (s : Int32 × Int32) => b_X12_areNear_6 v0 v1 v2 v3 h K126 (fun v4q v5q => k (v4q, v5q)) s.1 s.2) (v4, v5)
theorem okl_X12_areNear_6 {r : Int32} (v0 : Nat) (v1 : Int32) (v2 : Int32) (v3 : Int32) (h : Hp) (K126 : Int32 → Option Int32) (v4 : Int32) (v5 : Int32) (HK126 : ∀ (v4q : Int32) , K126 v4q = some r → Go M_X12_areNear (some (aI r), h) 126 [none, none, none, none, some (aI v4q), none, none, none] [] h) (H : l_X12_areNear_6 v0 v1 v2 v3 h K126 v4 v5 = some r) : Go M_X12_areNear (some (aI r), h) 6 [some (aA v0), some (aI v1), some (aI v2), some (aI v3), some (aI v4), some (aI v5), none, none] [] h := by
  unfold l_X12_areNear_6 at H
  exact go_loop (σ := Int32 × Int32) (body := (fun (k : Int32 × Int32 → Option Int32) (s : Int32 × Int32) => b_X12_areNear_6 v0 v1 v2 v3 h K126 (fun v4q v5q => k (v4q, v5q)) s.1 s.2)) (fun s => [some (aA v0), some (aI v1), some (aI v2), some (aI v3), some (aI s.1), some (aI s.2), none, none]) (fun s => h) (fun k s Hk H => okb_X12_areNear_6 v0 v1 v2 v3 h K126 (fun v4q v5q => k (v4q, v5q)) s.1 s.2 HK126 (fun v4q v5q H => Hk (v4q, v5q) H) H) FUEL (v4, v5) H
def j_X12_areNear_126 (v4 : Int32)  (h : Hp) : Option Int32 :=
  (zb v4).bind fun x1 => some x1
set_option maxRecDepth 20000 in
theorem okj_X12_areNear_126 {r : Int32} (v4 : Int32)  (h : Hp) (H : j_X12_areNear_126 v4 h = some r) : Go M_X12_areNear (some (aI r), h) 126 [none, none, none, none, some (aI v4), none, none, none] [] h := by
  unfold j_X12_areNear_126 at H
  refine go_iload dX12_areNear_126 rfl ?_
  obtain ⟨hz, H⟩ := gm_zb H
  obtain rfl := Option.some.inj H
  exact go_ireturn (x := v4) dX12_areNear_128 (tyI_bool rfl hz)
def m_X12_areNear (v0 : Nat) (v1 : Int32) (v2 : Int32) (v3 : Int32) (h : Hp) : Option Int32 :=
  l_X12_areNear_6 v0 v1 v2 v3 h (fun a1_4 => j_X12_areNear_126 a1_4 h) (0 : Int32) (0 : Int32)
set_option maxRecDepth 20000 in
theorem ok_X12_areNear {r : Int32} {v0 : Nat} {v1 : Int32} {v2 : Int32} {v3 : Int32} {h : Hp} (H : m_X12_areNear v0 v1 v2 v3 h = some r) : Ev M_X12_areNear [aA v0, aI v1, aI v2, aI v3] h (some (aI r), h) := by
  show Go M_X12_areNear (some (aI r), h) 0 [some (aA v0), some (aI v1), some (aI v2), some (aI v3), none, none, none, none] [] h
  unfold m_X12_areNear at H
  refine go_iconst (v := (0 : Int32)) dX12_areNear_0 rfl ?_
  refine go_istore (loc2 := [some (aA v0), some (aI v1), some (aI v2), some (aI v3), some (aI (0 : Int32)), none, none, none]) dX12_areNear_1 (by decide) rfl ?_
  refine go_iconst (v := (0 : Int32)) dX12_areNear_3 rfl ?_
  refine go_istore (loc2 := [some (aA v0), some (aI v1), some (aI v2), some (aI v3), some (aI (0 : Int32)), some (aI (0 : Int32)), none, none]) dX12_areNear_4 (by decide) rfl ?_
  refine okl_X12_areNear_6 v0 v1 v2 v3 h (fun a1_4 => j_X12_areNear_126 a1_4 h) (0 : Int32) (0 : Int32) ?_ H
  · intro a1_4 H
    exact okj_X12_areNear_126 a1_4 h  H
/-! X12_holdsBy -/
def j_X12_holdsBy_79  (s0 : Int32) (h : Hp) : Option Int32 :=
  (zb s0).bind fun x1 => some x1
set_option maxRecDepth 20000 in
theorem okj_X12_holdsBy_79 {r : Int32}  (s0 : Int32) (h : Hp) (H : j_X12_holdsBy_79 s0 h = some r) : Go M_X12_holdsBy (some (aI r), h) 79 [none, none, none, none, none, none] [aI s0] h := by
  unfold j_X12_holdsBy_79 at H
  obtain ⟨hz, H⟩ := gm_zb H
  obtain rfl := Option.some.inj H
  exact go_ireturn (x := s0) dX12_holdsBy_79 (tyI_bool rfl hz)
def j_X12_holdsBy_110  (s0 : Int32) (h : Hp) : Option Int32 :=
  (zb s0).bind fun x1 => some x1
set_option maxRecDepth 20000 in
theorem okj_X12_holdsBy_110 {r : Int32}  (s0 : Int32) (h : Hp) (H : j_X12_holdsBy_110 s0 h = some r) : Go M_X12_holdsBy (some (aI r), h) 110 [none, none, none, none, none, none] [aI s0] h := by
  unfold j_X12_holdsBy_110 at H
  obtain ⟨hz, H⟩ := gm_zb H
  obtain rfl := Option.some.inj H
  exact go_ireturn (x := s0) dX12_holdsBy_110 (tyI_bool rfl hz)
def j_X12_holdsBy_134  (s0 : Int32) (h : Hp) : Option Int32 :=
  (zb s0).bind fun x1 => some x1
set_option maxRecDepth 20000 in
theorem okj_X12_holdsBy_134 {r : Int32}  (s0 : Int32) (h : Hp) (H : j_X12_holdsBy_134 s0 h = some r) : Go M_X12_holdsBy (some (aI r), h) 134 [none, none, none, none, none, none] [aI s0] h := by
  unfold j_X12_holdsBy_134 at H
  obtain ⟨hz, H⟩ := gm_zb H
  obtain rfl := Option.some.inj H
  exact go_ireturn (x := s0) dX12_holdsBy_134 (tyI_bool rfl hz)
def j_X12_holdsBy_160  (s0 : Int32) (h : Hp) : Option Int32 :=
  (zb s0).bind fun x1 => some x1
set_option maxRecDepth 20000 in
theorem okj_X12_holdsBy_160 {r : Int32}  (s0 : Int32) (h : Hp) (H : j_X12_holdsBy_160 s0 h = some r) : Go M_X12_holdsBy (some (aI r), h) 160 [none, none, none, none, none, none] [aI s0] h := by
  unfold j_X12_holdsBy_160 at H
  obtain ⟨hz, H⟩ := gm_zb H
  obtain rfl := Option.some.inj H
  exact go_ireturn (x := s0) dX12_holdsBy_160 (tyI_bool rfl hz)
def j_X12_holdsBy_208  (s0 : Int32) (h : Hp) : Option Int32 :=
  (zb s0).bind fun x1 => some x1
set_option maxRecDepth 20000 in
theorem okj_X12_holdsBy_208 {r : Int32}  (s0 : Int32) (h : Hp) (H : j_X12_holdsBy_208 s0 h = some r) : Go M_X12_holdsBy (some (aI r), h) 208 [none, none, none, none, none, none] [aI s0] h := by
  unfold j_X12_holdsBy_208 at H
  obtain ⟨hz, H⟩ := gm_zb H
  obtain rfl := Option.some.inj H
  exact go_ireturn (x := s0) dX12_holdsBy_208 (tyI_bool rfl hz)
def m_X12_holdsBy (v0 : Nat) (v1 : Int32) (v2 : Int32) (v3 : Int32) (h : Hp) : Option Int32 :=
  (rc h v0 12 (m_X12_ofAsking v0 v1 (1 : Int32) h)).bind fun x1 => (rc h v0 12 (m_X12_ofAsking v0 v1 (2 : Int32) h)).bind fun x2 => (rc h v0 12 (m_X12_ofAsking v0 v1 (0 : Int32) h)).bind fun x3 => if x3 = (0 : Int32) then ((rc h v0 12 (m_X12_timesOf v0 v1 v2 v3 h)).bind fun x4 => j_X12_holdsBy_79 (if x4 ≤ 0 then (0 : Int32) else (1 : Int32)) h) else if x3 = (1 : Int32) then ((rc h v0 12 (m_X12_areNear v0 v1 v2 v3 h)).bind fun x5 => (zb x5).bind fun x6 => some x6) else if x3 = (2 : Int32) then ((rc h v0 12 (m_X12_ofAsking v0 v1 (3 : Int32) h)).bind fun x7 => (rc h v0 12 (m_X12_timesIn v0 v2 v3 x7 h)).bind fun x8 => j_X12_holdsBy_110 (if x8 < x1 then (0 : Int32) else (1 : Int32)) h) else if x3 = (3 : Int32) then ((gfR h v0 12 29).bind fun x9 => (alI h x9 (((4 : Int32) * x1) + v2)).bind fun x10 => (m_X12_has x10 v3 h).bind fun x11 => j_X12_holdsBy_134 (if ¬ x11 = 0 then (0 : Int32) else (1 : Int32)) h) else if x3 = (4 : Int32) then ((gfR h v0 12 29).bind fun x12 => (alI h x12 (((4 : Int32) * x1) + v2)).bind fun x13 => j_X12_holdsBy_160 (if (x13 &&& ((ishlF (2 : Int32) v3) - (1 : Int32))) = 0 then (0 : Int32) else (1 : Int32)) h) else if x3 = (5 : Int32) then ((gfR h v0 12 29).bind fun x14 => (alI h x14 (((4 : Int32) * x1) + v2)).bind fun x15 => (m_X12_has x15 v3 h).bind fun x16 => if x16 = 0 then j_X12_holdsBy_208 (0 : Int32) h else if v3 = 0 then j_X12_holdsBy_208 (1 : Int32) h else (gfR h v0 12 29).bind fun x17 => (alI h x17 (((4 : Int32) * x1) + v2)).bind fun x18 => (m_X12_has x18 (v3 - (1 : Int32)) h).bind fun x19 => j_X12_holdsBy_208 (if ¬ x19 = 0 then (0 : Int32) else (1 : Int32)) h) else if x3 = (6 : Int32) then ((gfR h v0 12 29).bind fun x20 => (alI h x20 (((4 : Int32) * x1) + v2)).bind fun x21 => (gfR h v0 12 29).bind fun x22 => (alI h x22 (((4 : Int32) * x2) + v2)).bind fun x23 => (m_X12_has (x21 &&& x23) v3 h).bind fun x24 => (zb x24).bind fun x25 => some x25) else (gfR h v0 12 29).bind fun x26 => (alI h x26 (((4 : Int32) * x1) + v2)).bind fun x27 => (gfR h v0 12 29).bind fun x28 => (alI h x28 (((4 : Int32) * x2) + v2)).bind fun x29 => (m_X12_has (x27 ||| x29) v3 h).bind fun x30 => (zb x30).bind fun x31 => some x31
set_option maxRecDepth 20000 in
theorem ok_X12_holdsBy {r : Int32} {v0 : Nat} {v1 : Int32} {v2 : Int32} {v3 : Int32} {h : Hp} (H : m_X12_holdsBy v0 v1 v2 v3 h = some r) : Ev M_X12_holdsBy [aA v0, aI v1, aI v2, aI v3] h (some (aI r), h) := by
  show Go M_X12_holdsBy (some (aI r), h) 0 [some (aA v0), some (aI v1), some (aI v2), some (aI v3), none, none] [] h
  unfold m_X12_holdsBy at H
  refine go_aloadn dX12_holdsBy_0 rfl ?_
  refine go_iloadn dX12_holdsBy_1 rfl ?_
  refine go_iconst (v := (1 : Int32)) dX12_holdsBy_2 rfl ?_
  obtain ⟨c1, x1, ex1, H⟩ := gm_rc H
  refine go_callV (vs := [aI v1, aI (1 : Int32)]) (stk := []) (o1 := (some (aI x1), h)) mk_X12_ofAsking sv_X12_holdsBy_371 cl_X12 rfl dX12_holdsBy_3 c1 rfl rfl (Nat.le_of_ble_eq_true rfl) (Nat.le_of_ble_eq_true rfl) (ok_X12_ofAsking ex1) (show Go M_X12_holdsBy (some (aI r), h) 6 [some (aA v0), some (aI v1), some (aI v2), some (aI v3), none, none] [aI x1] h from ?_)
  refine go_istore (loc2 := [some (aA v0), some (aI v1), some (aI v2), some (aI v3), some (aI x1), none]) dX12_holdsBy_6 (by decide) rfl ?_
  refine go_aloadn dX12_holdsBy_8 rfl ?_
  refine go_iloadn dX12_holdsBy_9 rfl ?_
  refine go_iconst (v := (2 : Int32)) dX12_holdsBy_10 rfl ?_
  obtain ⟨c2, x2, ex2, H⟩ := gm_rc H
  refine go_callV (vs := [aI v1, aI (2 : Int32)]) (stk := []) (o1 := (some (aI x2), h)) mk_X12_ofAsking sv_X12_holdsBy_371 cl_X12 rfl dX12_holdsBy_11 c2 rfl rfl (Nat.le_of_ble_eq_true rfl) (Nat.le_of_ble_eq_true rfl) (ok_X12_ofAsking ex2) (show Go M_X12_holdsBy (some (aI r), h) 14 [some (aA v0), some (aI v1), some (aI v2), some (aI v3), some (aI x1), none] [aI x2] h from ?_)
  refine go_istore (loc2 := [some (aA v0), some (aI v1), some (aI v2), some (aI v3), some (aI x1), some (aI x2)]) dX12_holdsBy_14 (by decide) rfl ?_
  refine go_aloadn dX12_holdsBy_16 rfl ?_
  refine go_iloadn dX12_holdsBy_17 rfl ?_
  refine go_iconst (v := (0 : Int32)) dX12_holdsBy_18 rfl ?_
  obtain ⟨c3, x3, ex3, H⟩ := gm_rc H
  refine go_callV (vs := [aI v1, aI (0 : Int32)]) (stk := []) (o1 := (some (aI x3), h)) mk_X12_ofAsking sv_X12_holdsBy_371 cl_X12 rfl dX12_holdsBy_19 c3 rfl rfl (Nat.le_of_ble_eq_true rfl) (Nat.le_of_ble_eq_true rfl) (ok_X12_ofAsking ex3) (show Go M_X12_holdsBy (some (aI r), h) 22 [some (aA v0), some (aI v1), some (aI v2), some (aI v3), some (aI x1), some (aI x2)] [aI x3] h from ?_)
  by_cases c4 : x3 = (0 : Int32)
  · replace H := (gm_ite H).1 c4
    refine go_eqI c4 ?_
    refine go_tableIn (tgt := 64) dX12_holdsBy_22 (by decide) (by decide) rfl (by decide) ?_
    refine go_aloadn dX12_holdsBy_64 rfl ?_
    refine go_iloadn dX12_holdsBy_65 rfl ?_
    refine go_iloadn dX12_holdsBy_66 rfl ?_
    refine go_iloadn dX12_holdsBy_67 rfl ?_
    obtain ⟨c5, x4, ex4, H⟩ := gm_rc H
    refine go_callV (vs := [aI v1, aI v2, aI v3]) (stk := []) (o1 := (some (aI x4), h)) mk_X12_timesOf sv_X12_holdsBy_386 cl_X12 rfl dX12_holdsBy_68 c5 rfl rfl (Nat.le_of_ble_eq_true rfl) (Nat.le_of_ble_eq_true rfl) (ok_X12_timesOf ex4) (show Go M_X12_holdsBy (some (aI r), h) 71 [some (aA v0), some (aI v1), some (aI v2), some (aI v3), some (aI x1), some (aI x2)] [aI x4] h from ?_)
    refine go_if_le (tgt := 78) dX12_holdsBy_71 (by decide) (fun c6 => ?_) (fun c6 => ?_)
    · rw [if_pos c6] at H
      refine go_iconst (v := (0 : Int32)) dX12_holdsBy_78 rfl ?_
      refine go_mask [false, false, false, false, false, false] (loc' := [none, none, none, none, none, none]) rfl ?_
      exact okj_X12_holdsBy_79 (0 : Int32) h  H
    · rw [if_neg c6] at H
      refine go_iconst (v := (1 : Int32)) dX12_holdsBy_74 rfl ?_
      refine go_goto (tgt := 79) dX12_holdsBy_75 (by decide) ?_
      refine go_mask [false, false, false, false, false, false] (loc' := [none, none, none, none, none, none]) rfl ?_
      exact okj_X12_holdsBy_79 (1 : Int32) h  H
  · replace H := (gm_ite H).2 c4
    by_cases c7 : x3 = (1 : Int32)
    · replace H := (gm_ite H).1 c7
      refine go_eqI c7 ?_
      refine go_tableIn (tgt := 80) dX12_holdsBy_22 (by decide) (by decide) rfl (by decide) ?_
      refine go_aloadn dX12_holdsBy_80 rfl ?_
      refine go_iloadn dX12_holdsBy_81 rfl ?_
      refine go_iloadn dX12_holdsBy_82 rfl ?_
      refine go_iloadn dX12_holdsBy_83 rfl ?_
      obtain ⟨c8, x5, ex5, H⟩ := gm_rc H
      refine go_callV (vs := [aI v1, aI v2, aI v3]) (stk := []) (o1 := (some (aI x5), h)) mk_X12_areNear sv_X12_holdsBy_389 cl_X12 rfl dX12_holdsBy_84 c8 rfl rfl (Nat.le_of_ble_eq_true rfl) (Nat.le_of_ble_eq_true rfl) (ok_X12_areNear ex5) (show Go M_X12_holdsBy (some (aI r), h) 87 [some (aA v0), some (aI v1), some (aI v2), some (aI v3), some (aI x1), some (aI x2)] [aI x5] h from ?_)
      obtain ⟨hz, H⟩ := gm_zb H
      obtain rfl := Option.some.inj H
      exact go_ireturn (x := x5) dX12_holdsBy_87 (tyI_bool rfl hz)
    · replace H := (gm_ite H).2 c7
      by_cases c9 : x3 = (2 : Int32)
      · replace H := (gm_ite H).1 c9
        refine go_eqI c9 ?_
        refine go_tableIn (tgt := 88) dX12_holdsBy_22 (by decide) (by decide) rfl (by decide) ?_
        refine go_aloadn dX12_holdsBy_88 rfl ?_
        refine go_iloadn dX12_holdsBy_89 rfl ?_
        refine go_iloadn dX12_holdsBy_90 rfl ?_
        refine go_aloadn dX12_holdsBy_91 rfl ?_
        refine go_iloadn dX12_holdsBy_92 rfl ?_
        refine go_iconst (v := (3 : Int32)) dX12_holdsBy_93 rfl ?_
        obtain ⟨c10, x7, ex7, H⟩ := gm_rc H
        refine go_callV (vs := [aI v1, aI (3 : Int32)]) (stk := [aI v3, aI v2, aA v0]) (o1 := (some (aI x7), h)) mk_X12_ofAsking sv_X12_holdsBy_371 cl_X12 rfl dX12_holdsBy_94 c10 rfl rfl (Nat.le_of_ble_eq_true rfl) (Nat.le_of_ble_eq_true rfl) (ok_X12_ofAsking ex7) (show Go M_X12_holdsBy (some (aI r), h) 97 [some (aA v0), some (aI v1), some (aI v2), some (aI v3), some (aI x1), some (aI x2)] [aI x7, aI v3, aI v2, aA v0] h from ?_)
        obtain ⟨c11, x8, ex8, H⟩ := gm_rc H
        refine go_callV (vs := [aI v2, aI v3, aI x7]) (stk := []) (o1 := (some (aI x8), h)) mk_X12_timesIn sv_X12_holdsBy_362 cl_X12 rfl dX12_holdsBy_97 c11 rfl rfl (Nat.le_of_ble_eq_true rfl) (Nat.le_of_ble_eq_true rfl) (ok_X12_timesIn ex8) (show Go M_X12_holdsBy (some (aI r), h) 100 [some (aA v0), some (aI v1), some (aI v2), some (aI v3), some (aI x1), some (aI x2)] [aI x8] h from ?_)
        refine go_iload dX12_holdsBy_100 rfl ?_
        refine go_icmp_lt (tgt := 109) dX12_holdsBy_102 (by decide) (fun c12 => ?_) (fun c12 => ?_)
        · rw [if_pos c12] at H
          refine go_iconst (v := (0 : Int32)) dX12_holdsBy_109 rfl ?_
          refine go_mask [false, false, false, false, false, false] (loc' := [none, none, none, none, none, none]) rfl ?_
          exact okj_X12_holdsBy_110 (0 : Int32) h  H
        · rw [if_neg c12] at H
          refine go_iconst (v := (1 : Int32)) dX12_holdsBy_105 rfl ?_
          refine go_goto (tgt := 110) dX12_holdsBy_106 (by decide) ?_
          refine go_mask [false, false, false, false, false, false] (loc' := [none, none, none, none, none, none]) rfl ?_
          exact okj_X12_holdsBy_110 (1 : Int32) h  H
      · replace H := (gm_ite H).2 c9
        by_cases c13 : x3 = (3 : Int32)
        · replace H := (gm_ite H).1 c13
          refine go_eqI c13 ?_
          refine go_tableIn (tgt := 111) dX12_holdsBy_22 (by decide) (by decide) rfl (by decide) ?_
          refine go_aloadn dX12_holdsBy_111 rfl ?_
          refine gm_getR fd_X12_50 dX12_holdsBy_112 H (fun x9 H => ?_)
          refine go_iconst (v := (4 : Int32)) dX12_holdsBy_115 rfl ?_
          refine go_iload dX12_holdsBy_116 rfl ?_
          refine go_imul dX12_holdsBy_118 ?_
          refine go_iloadn dX12_holdsBy_119 rfl ?_
          refine go_iadd dX12_holdsBy_120 ?_
          refine gm_iald dX12_holdsBy_121 H (fun x10 H => ?_)
          refine go_iloadn dX12_holdsBy_122 rfl ?_
          obtain ⟨x11, ex11, H⟩ := bind_some H
          refine go_callS (vs := [aI x10, aI v3]) (stk := []) (o1 := (some (aI x11), h)) mk_X12_has ss_X12_holdsBy_64 dX12_holdsBy_123 rfl rfl (Nat.le_of_ble_eq_true rfl) (Nat.le_of_ble_eq_true rfl) (ok_X12_has ex11) (show Go M_X12_holdsBy (some (aI r), h) 126 [some (aA v0), some (aI v1), some (aI v2), some (aI v3), some (aI x1), some (aI x2)] [aI x11] h from ?_)
          refine go_if_ne (tgt := 133) dX12_holdsBy_126 (by decide) (fun c15 => ?_) (fun c15 => ?_)
          · rw [if_pos c15] at H
            refine go_iconst (v := (0 : Int32)) dX12_holdsBy_133 rfl ?_
            refine go_mask [false, false, false, false, false, false] (loc' := [none, none, none, none, none, none]) rfl ?_
            exact okj_X12_holdsBy_134 (0 : Int32) h  H
          · rw [if_neg c15] at H
            refine go_iconst (v := (1 : Int32)) dX12_holdsBy_129 rfl ?_
            refine go_goto (tgt := 134) dX12_holdsBy_130 (by decide) ?_
            refine go_mask [false, false, false, false, false, false] (loc' := [none, none, none, none, none, none]) rfl ?_
            exact okj_X12_holdsBy_134 (1 : Int32) h  H
        · replace H := (gm_ite H).2 c13
          by_cases c16 : x3 = (4 : Int32)
          · replace H := (gm_ite H).1 c16
            refine go_eqI c16 ?_
            refine go_tableIn (tgt := 135) dX12_holdsBy_22 (by decide) (by decide) rfl (by decide) ?_
            refine go_aloadn dX12_holdsBy_135 rfl ?_
            refine gm_getR fd_X12_50 dX12_holdsBy_136 H (fun x12 H => ?_)
            refine go_iconst (v := (4 : Int32)) dX12_holdsBy_139 rfl ?_
            refine go_iload dX12_holdsBy_140 rfl ?_
            refine go_imul dX12_holdsBy_142 ?_
            refine go_iloadn dX12_holdsBy_143 rfl ?_
            refine go_iadd dX12_holdsBy_144 ?_
            refine gm_iald dX12_holdsBy_145 H (fun x13 H => ?_)
            refine go_iconst (v := (2 : Int32)) dX12_holdsBy_146 rfl ?_
            refine go_iloadn dX12_holdsBy_147 rfl ?_
            refine go_ishl dX12_holdsBy_148 ?_
            refine go_iconst (v := (1 : Int32)) dX12_holdsBy_149 rfl ?_
            refine go_isub dX12_holdsBy_150 ?_
            refine go_iand dX12_holdsBy_151 ?_
            refine go_if_eq (tgt := 159) dX12_holdsBy_152 (by decide) (fun c17 => ?_) (fun c17 => ?_)
            · rw [if_pos c17] at H
              refine go_iconst (v := (0 : Int32)) dX12_holdsBy_159 rfl ?_
              refine go_mask [false, false, false, false, false, false] (loc' := [none, none, none, none, none, none]) rfl ?_
              exact okj_X12_holdsBy_160 (0 : Int32) h  H
            · rw [if_neg c17] at H
              refine go_iconst (v := (1 : Int32)) dX12_holdsBy_155 rfl ?_
              refine go_goto (tgt := 160) dX12_holdsBy_156 (by decide) ?_
              refine go_mask [false, false, false, false, false, false] (loc' := [none, none, none, none, none, none]) rfl ?_
              exact okj_X12_holdsBy_160 (1 : Int32) h  H
          · replace H := (gm_ite H).2 c16
            by_cases c18 : x3 = (5 : Int32)
            · replace H := (gm_ite H).1 c18
              refine go_eqI c18 ?_
              refine go_tableIn (tgt := 161) dX12_holdsBy_22 (by decide) (by decide) rfl (by decide) ?_
              refine go_aloadn dX12_holdsBy_161 rfl ?_
              refine gm_getR fd_X12_50 dX12_holdsBy_162 H (fun x14 H => ?_)
              refine go_iconst (v := (4 : Int32)) dX12_holdsBy_165 rfl ?_
              refine go_iload dX12_holdsBy_166 rfl ?_
              refine go_imul dX12_holdsBy_168 ?_
              refine go_iloadn dX12_holdsBy_169 rfl ?_
              refine go_iadd dX12_holdsBy_170 ?_
              refine gm_iald dX12_holdsBy_171 H (fun x15 H => ?_)
              refine go_iloadn dX12_holdsBy_172 rfl ?_
              obtain ⟨x16, ex16, H⟩ := bind_some H
              refine go_callS (vs := [aI x15, aI v3]) (stk := []) (o1 := (some (aI x16), h)) mk_X12_has ss_X12_holdsBy_64 dX12_holdsBy_173 rfl rfl (Nat.le_of_ble_eq_true rfl) (Nat.le_of_ble_eq_true rfl) (ok_X12_has ex16) (show Go M_X12_holdsBy (some (aI r), h) 176 [some (aA v0), some (aI v1), some (aI v2), some (aI v3), some (aI x1), some (aI x2)] [aI x16] h from ?_)
              refine go_if_eq (tgt := 207) dX12_holdsBy_176 (by decide) (fun c20 => ?_) (fun c20 => ?_)
              · replace H := (gm_ite H).1 c20
                refine go_iconst (v := (0 : Int32)) dX12_holdsBy_207 rfl ?_
                refine go_mask [false, false, false, false, false, false] (loc' := [none, none, none, none, none, none]) rfl ?_
                exact okj_X12_holdsBy_208 (0 : Int32) h  H
              · replace H := (gm_ite H).2 c20
                refine go_iloadn dX12_holdsBy_179 rfl ?_
                refine go_if_eq (tgt := 203) dX12_holdsBy_180 (by decide) (fun c21 => ?_) (fun c21 => ?_)
                · replace H := (gm_ite H).1 c21
                  refine go_iconst (v := (1 : Int32)) dX12_holdsBy_203 rfl ?_
                  refine go_goto (tgt := 208) dX12_holdsBy_204 (by decide) ?_
                  refine go_mask [false, false, false, false, false, false] (loc' := [none, none, none, none, none, none]) rfl ?_
                  exact okj_X12_holdsBy_208 (1 : Int32) h  H
                · replace H := (gm_ite H).2 c21
                  refine go_aloadn dX12_holdsBy_183 rfl ?_
                  refine gm_getR fd_X12_50 dX12_holdsBy_184 H (fun x17 H => ?_)
                  refine go_iconst (v := (4 : Int32)) dX12_holdsBy_187 rfl ?_
                  refine go_iload dX12_holdsBy_188 rfl ?_
                  refine go_imul dX12_holdsBy_190 ?_
                  refine go_iloadn dX12_holdsBy_191 rfl ?_
                  refine go_iadd dX12_holdsBy_192 ?_
                  refine gm_iald dX12_holdsBy_193 H (fun x18 H => ?_)
                  refine go_iloadn dX12_holdsBy_194 rfl ?_
                  refine go_iconst (v := (1 : Int32)) dX12_holdsBy_195 rfl ?_
                  refine go_isub dX12_holdsBy_196 ?_
                  obtain ⟨x19, ex19, H⟩ := bind_some H
                  refine go_callS (vs := [aI x18, aI (v3 - (1 : Int32))]) (stk := []) (o1 := (some (aI x19), h)) mk_X12_has ss_X12_holdsBy_64 dX12_holdsBy_197 rfl rfl (Nat.le_of_ble_eq_true rfl) (Nat.le_of_ble_eq_true rfl) (ok_X12_has ex19) (show Go M_X12_holdsBy (some (aI r), h) 200 [some (aA v0), some (aI v1), some (aI v2), some (aI v3), some (aI x1), some (aI x2)] [aI x19] h from ?_)
                  refine go_if_ne (tgt := 207) dX12_holdsBy_200 (by decide) (fun c23 => ?_) (fun c23 => ?_)
                  · rw [if_pos c23] at H
                    refine go_iconst (v := (0 : Int32)) dX12_holdsBy_207 rfl ?_
                    refine go_mask [false, false, false, false, false, false] (loc' := [none, none, none, none, none, none]) rfl ?_
                    exact okj_X12_holdsBy_208 (0 : Int32) h  H
                  · rw [if_neg c23] at H
                    refine go_iconst (v := (1 : Int32)) dX12_holdsBy_203 rfl ?_
                    refine go_goto (tgt := 208) dX12_holdsBy_204 (by decide) ?_
                    refine go_mask [false, false, false, false, false, false] (loc' := [none, none, none, none, none, none]) rfl ?_
                    exact okj_X12_holdsBy_208 (1 : Int32) h  H
            · replace H := (gm_ite H).2 c18
              by_cases c24 : x3 = (6 : Int32)
              · replace H := (gm_ite H).1 c24
                refine go_eqI c24 ?_
                refine go_tableIn (tgt := 209) dX12_holdsBy_22 (by decide) (by decide) rfl (by decide) ?_
                refine go_aloadn dX12_holdsBy_209 rfl ?_
                refine gm_getR fd_X12_50 dX12_holdsBy_210 H (fun x20 H => ?_)
                refine go_iconst (v := (4 : Int32)) dX12_holdsBy_213 rfl ?_
                refine go_iload dX12_holdsBy_214 rfl ?_
                refine go_imul dX12_holdsBy_216 ?_
                refine go_iloadn dX12_holdsBy_217 rfl ?_
                refine go_iadd dX12_holdsBy_218 ?_
                refine gm_iald dX12_holdsBy_219 H (fun x21 H => ?_)
                refine go_aloadn dX12_holdsBy_220 rfl ?_
                refine gm_getR fd_X12_50 dX12_holdsBy_221 H (fun x22 H => ?_)
                refine go_iconst (v := (4 : Int32)) dX12_holdsBy_224 rfl ?_
                refine go_iload dX12_holdsBy_225 rfl ?_
                refine go_imul dX12_holdsBy_227 ?_
                refine go_iloadn dX12_holdsBy_228 rfl ?_
                refine go_iadd dX12_holdsBy_229 ?_
                refine gm_iald dX12_holdsBy_230 H (fun x23 H => ?_)
                refine go_iand dX12_holdsBy_231 ?_
                refine go_iloadn dX12_holdsBy_232 rfl ?_
                obtain ⟨x24, ex24, H⟩ := bind_some H
                refine go_callS (vs := [aI (x21 &&& x23), aI v3]) (stk := []) (o1 := (some (aI x24), h)) mk_X12_has ss_X12_holdsBy_64 dX12_holdsBy_233 rfl rfl (Nat.le_of_ble_eq_true rfl) (Nat.le_of_ble_eq_true rfl) (ok_X12_has ex24) (show Go M_X12_holdsBy (some (aI r), h) 236 [some (aA v0), some (aI v1), some (aI v2), some (aI v3), some (aI x1), some (aI x2)] [aI x24] h from ?_)
                obtain ⟨hz, H⟩ := gm_zb H
                obtain rfl := Option.some.inj H
                exact go_ireturn (x := x24) dX12_holdsBy_236 (tyI_bool rfl hz)
              · replace H := (gm_ite H).2 c24
                refine go_tableOut (tgt := 237) dX12_holdsBy_22 (sw_out (fun i h1 h2 e => ?_)) (by decide) ?_
                · have h3 : i = 0 ∨ i = 1 ∨ i = 2 ∨ i = 3 ∨ i = 4 ∨ i = 5 ∨ i = 6 := by omega
                  rcases h3 with rfl | rfl | rfl | rfl | rfl | rfl | rfl
                  · exact sw_ne c4 (by decide) e
                  · exact sw_ne c7 (by decide) e
                  · exact sw_ne c9 (by decide) e
                  · exact sw_ne c13 (by decide) e
                  · exact sw_ne c16 (by decide) e
                  · exact sw_ne c18 (by decide) e
                  · exact sw_ne c24 (by decide) e
                · skip
                  refine go_aloadn dX12_holdsBy_237 rfl ?_
                  refine gm_getR fd_X12_50 dX12_holdsBy_238 H (fun x26 H => ?_)
                  refine go_iconst (v := (4 : Int32)) dX12_holdsBy_241 rfl ?_
                  refine go_iload dX12_holdsBy_242 rfl ?_
                  refine go_imul dX12_holdsBy_244 ?_
                  refine go_iloadn dX12_holdsBy_245 rfl ?_
                  refine go_iadd dX12_holdsBy_246 ?_
                  refine gm_iald dX12_holdsBy_247 H (fun x27 H => ?_)
                  refine go_aloadn dX12_holdsBy_248 rfl ?_
                  refine gm_getR fd_X12_50 dX12_holdsBy_249 H (fun x28 H => ?_)
                  refine go_iconst (v := (4 : Int32)) dX12_holdsBy_252 rfl ?_
                  refine go_iload dX12_holdsBy_253 rfl ?_
                  refine go_imul dX12_holdsBy_255 ?_
                  refine go_iloadn dX12_holdsBy_256 rfl ?_
                  refine go_iadd dX12_holdsBy_257 ?_
                  refine gm_iald dX12_holdsBy_258 H (fun x29 H => ?_)
                  refine go_ior dX12_holdsBy_259 ?_
                  refine go_iloadn dX12_holdsBy_260 rfl ?_
                  obtain ⟨x30, ex30, H⟩ := bind_some H
                  refine go_callS (vs := [aI (x27 ||| x29), aI v3]) (stk := []) (o1 := (some (aI x30), h)) mk_X12_has ss_X12_holdsBy_64 dX12_holdsBy_261 rfl rfl (Nat.le_of_ble_eq_true rfl) (Nat.le_of_ble_eq_true rfl) (ok_X12_has ex30) (show Go M_X12_holdsBy (some (aI r), h) 264 [some (aA v0), some (aI v1), some (aI v2), some (aI v3), some (aI x1), some (aI x2)] [aI x30] h from ?_)
                  obtain ⟨hz, H⟩ := gm_zb H
                  obtain rfl := Option.some.inj H
                  exact go_ireturn (x := x30) dX12_holdsBy_264 (tyI_bool rfl hz)
/-! X12_layHeld -/
def j_X12_layHeld_104 (v0 : Nat) (v3 : Int32) (v4 : Int32) (v5 : Int32) (s0 : Nat) (s1 : Int32) (s2 : Int32) (s3 : Int32) (h : Hp) (K112 : Hp → Option (Int32 × Hp)) (k : Int32 → Hp → Option (Int32 × Hp)) : Option (Int32 × Hp) :=
  (asI h s0 s1 (s2 ||| s3)).bind fun hh1 => k (v5 + (1 : Int32)) hh1
set_option maxRecDepth 20000 in
theorem okj_X12_layHeld_104 {r : (Int32 × Hp)} (v0 : Nat) (v3 : Int32) (v4 : Int32) (v5 : Int32) (s0 : Nat) (s1 : Int32) (s2 : Int32) (s3 : Int32) (h : Hp) (K112 : Hp → Option (Int32 × Hp)) (k : Int32 → Hp → Option (Int32 × Hp)) (HK112 : ∀   (hq : Hp), K112 hq = some r → Go M_X12_layHeld (some (aI r.1), r.2) 112 [some (aA v0), none, none, some (aI v3), some (aI v4), none] [] hq) (Hk : ∀ (v5q : Int32) (hq : Hp), k v5q hq = some r → Go M_X12_layHeld (some (aI r.1), r.2) 52 [some (aA v0), none, none, some (aI v3), some (aI v4), some (aI v5q)] [] hq) (H : j_X12_layHeld_104 v0 v3 v4 v5 s0 s1 s2 s3 h K112 k = some r) : Go M_X12_layHeld (some (aI r.1), r.2) 104 [some (aA v0), none, none, some (aI v3), some (aI v4), some (aI v5)] [aI s3, aI s2, aI s1, aA s0] h := by
  unfold j_X12_layHeld_104 at H
  refine go_ior dX12_layHeld_104 ?_
  refine gm_iast dX12_layHeld_105 H (fun hh1 H => ?_)
  refine go_iinc (v := (v5 + (1 : Int32))) (loc2 := [some (aA v0), none, none, some (aI v3), some (aI v4), some (aI (v5 + (1 : Int32)))]) dX12_layHeld_106 rfl rfl (by decide) rfl ?_
  refine go_goto (tgt := 52) dX12_layHeld_109 (by decide) ?_
  exact Hk (v5 + (1 : Int32)) hh1 H
def b_X12_layHeld_52 (v0 : Nat) (v3 : Int32) (v4 : Int32) (K112 : Hp → Option (Int32 × Hp)) (k : Int32 → Hp → Option (Int32 × Hp)) (v5 : Int32) (h : Hp) : Option (Int32 × Hp) :=
  (rc h v0 12 (m_X12_isDoc v0 v4 h)).bind fun x1 => if x1 = 0 then K112 h else (rc h v0 12 (m_X12_versions v0 v4 h)).bind fun x2 => if x2 ≤ v5 then K112 h else (gfR h v0 12 29).bind fun x3 => (alI h x3 (((4 : Int32) * v3) + v4)).bind fun x4 => (rc h v0 12 (m_X12_holdsBy v0 v3 v4 v5 h)).bind fun x5 => if x5 = 0 then (j_X12_layHeld_104 v0 v3 v4 v5 x3 (((4 : Int32) * v3) + v4) x4 (0 : Int32) h K112 k) else j_X12_layHeld_104 v0 v3 v4 v5 x3 (((4 : Int32) * v3) + v4) x4 (ishlF (1 : Int32) v5) h K112 k
set_option maxRecDepth 20000 in
theorem okb_X12_layHeld_52 {r : (Int32 × Hp)} (v0 : Nat) (v3 : Int32) (v4 : Int32) (K112 : Hp → Option (Int32 × Hp)) (k : Int32 → Hp → Option (Int32 × Hp)) (v5 : Int32) (h : Hp) (HK112 : ∀   (hq : Hp), K112 hq = some r → Go M_X12_layHeld (some (aI r.1), r.2) 112 [some (aA v0), none, none, some (aI v3), some (aI v4), none] [] hq) (Hk : ∀ (v5q : Int32) (hq : Hp), k v5q hq = some r → Go M_X12_layHeld (some (aI r.1), r.2) 52 [some (aA v0), none, none, some (aI v3), some (aI v4), some (aI v5q)] [] hq) (H : b_X12_layHeld_52 v0 v3 v4 K112 k v5 h = some r) : Go M_X12_layHeld (some (aI r.1), r.2) 52 [some (aA v0), none, none, some (aI v3), some (aI v4), some (aI v5)] [] h := by
  unfold b_X12_layHeld_52 at H
  refine go_aloadn dX12_layHeld_52 rfl ?_
  refine go_iload dX12_layHeld_53 rfl ?_
  obtain ⟨c1, x1, ex1, H⟩ := gm_rc H
  refine go_callV (vs := [aI v4]) (stk := []) (o1 := (some (aI x1), h)) mk_X12_isDoc sv_X12_layHeld_256 cl_X12 rfl dX12_layHeld_55 c1 rfl rfl (Nat.le_of_ble_eq_true rfl) (Nat.le_of_ble_eq_true rfl) (ok_X12_isDoc ex1) (show Go M_X12_layHeld (some (aI r.1), r.2) 58 [some (aA v0), none, none, some (aI v3), some (aI v4), some (aI v5)] [aI x1] h from ?_)
  refine go_if_eq (tgt := 112) dX12_layHeld_58 (by decide) (fun c2 => ?_) (fun c2 => ?_)
  · replace H := (gm_ite H).1 c2
    refine go_mask [true, false, false, true, true, false] (loc' := [some (aA v0), none, none, some (aI v3), some (aI v4), none]) rfl ?_
    exact HK112 h H
  · replace H := (gm_ite H).2 c2
    refine go_iload dX12_layHeld_61 rfl ?_
    refine go_aloadn dX12_layHeld_63 rfl ?_
    refine go_iload dX12_layHeld_64 rfl ?_
    obtain ⟨c3, x2, ex2, H⟩ := gm_rc H
    refine go_callV (vs := [aI v4]) (stk := [aI v5]) (o1 := (some (aI x2), h)) mk_X12_versions sv_X12_layHeld_259 cl_X12 rfl dX12_layHeld_66 c3 rfl rfl (Nat.le_of_ble_eq_true rfl) (Nat.le_of_ble_eq_true rfl) (ok_X12_versions ex2) (show Go M_X12_layHeld (some (aI r.1), r.2) 69 [some (aA v0), none, none, some (aI v3), some (aI v4), some (aI v5)] [aI x2, aI v5] h from ?_)
    refine go_icmp_ge (tgt := 112) dX12_layHeld_69 (by decide) (fun c4 => ?_) (fun c4 => ?_)
    · replace H := (gm_ite H).1 c4
      refine go_mask [true, false, false, true, true, false] (loc' := [some (aA v0), none, none, some (aI v3), some (aI v4), none]) rfl ?_
      exact HK112 h H
    · replace H := (gm_ite H).2 c4
      refine go_aloadn dX12_layHeld_72 rfl ?_
      refine gm_getR fd_X12_50 dX12_layHeld_73 H (fun x3 H => ?_)
      refine go_iconst (v := (4 : Int32)) dX12_layHeld_76 rfl ?_
      refine go_iloadn dX12_layHeld_77 rfl ?_
      refine go_imul dX12_layHeld_78 ?_
      refine go_iload dX12_layHeld_79 rfl ?_
      refine go_iadd dX12_layHeld_81 ?_
      refine go_dup2IA dX12_layHeld_82 ?_
      refine gm_iald dX12_layHeld_83 H (fun x4 H => ?_)
      refine go_aloadn dX12_layHeld_84 rfl ?_
      refine go_iloadn dX12_layHeld_85 rfl ?_
      refine go_iload dX12_layHeld_86 rfl ?_
      refine go_iload dX12_layHeld_88 rfl ?_
      obtain ⟨c5, x5, ex5, H⟩ := gm_rc H
      refine go_callV (vs := [aI v3, aI v4, aI v5]) (stk := [aI x4, aI (((4 : Int32) * v3) + v4), aA x3]) (o1 := (some (aI x5), h)) mk_X12_holdsBy sv_X12_layHeld_392 cl_X12 rfl dX12_layHeld_90 c5 rfl rfl (Nat.le_of_ble_eq_true rfl) (Nat.le_of_ble_eq_true rfl) (ok_X12_holdsBy ex5) (show Go M_X12_layHeld (some (aI r.1), r.2) 93 [some (aA v0), none, none, some (aI v3), some (aI v4), some (aI v5)] [aI x5, aI x4, aI (((4 : Int32) * v3) + v4), aA x3] h from ?_)
      refine go_if_eq (tgt := 103) dX12_layHeld_93 (by decide) (fun c6 => ?_) (fun c6 => ?_)
      · replace H := (gm_ite H).1 c6
        refine go_iconst (v := (0 : Int32)) dX12_layHeld_103 rfl ?_
        exact okj_X12_layHeld_104 v0 v3 v4 v5 x3 (((4 : Int32) * v3) + v4) x4 (0 : Int32) h K112 k HK112 Hk H
      · replace H := (gm_ite H).2 c6
        refine go_iconst (v := (1 : Int32)) dX12_layHeld_96 rfl ?_
        refine go_iload dX12_layHeld_97 rfl ?_
        refine go_ishl dX12_layHeld_99 ?_
        refine go_goto (tgt := 104) dX12_layHeld_100 (by decide) ?_
        exact okj_X12_layHeld_104 v0 v3 v4 v5 x3 (((4 : Int32) * v3) + v4) x4 (ishlF (1 : Int32) v5) h K112 k HK112 Hk H
def l_X12_layHeld_52 (v0 : Nat) (v3 : Int32) (v4 : Int32) (K112 : Hp → Option (Int32 × Hp)) (v5 : Int32) (h : Hp) : Option (Int32 × Hp) := loopK FUEL (fun (k : Int32 × Hp → Option (Int32 × Hp)) (s : Int32 × Hp) => b_X12_layHeld_52 v0 v3 v4 K112 (fun v5q hq => k (v5q, hq)) s.1 s.2) (v5, h)
theorem okl_X12_layHeld_52 {r : (Int32 × Hp)} (v0 : Nat) (v3 : Int32) (v4 : Int32) (K112 : Hp → Option (Int32 × Hp)) (v5 : Int32) (h : Hp) (HK112 : ∀   (hq : Hp), K112 hq = some r → Go M_X12_layHeld (some (aI r.1), r.2) 112 [some (aA v0), none, none, some (aI v3), some (aI v4), none] [] hq) (H : l_X12_layHeld_52 v0 v3 v4 K112 v5 h = some r) : Go M_X12_layHeld (some (aI r.1), r.2) 52 [some (aA v0), none, none, some (aI v3), some (aI v4), some (aI v5)] [] h := by
  unfold l_X12_layHeld_52 at H
  exact go_loop (σ := Int32 × Hp) (body := (fun (k : Int32 × Hp → Option (Int32 × Hp)) (s : Int32 × Hp) => b_X12_layHeld_52 v0 v3 v4 K112 (fun v5q hq => k (v5q, hq)) s.1 s.2)) (fun s => [some (aA v0), none, none, some (aI v3), some (aI v4), some (aI s.1)]) (fun s => s.2) (fun k s Hk H => okb_X12_layHeld_52 v0 v3 v4 K112 (fun v5q hq => k (v5q, hq)) s.1 s.2 HK112 (fun v5q hq H => Hk (v5q, hq) H) H) FUEL (v5, h) H
def j_X12_layHeld_112 (v0 : Nat) (v3 : Int32) (v4 : Int32)  (h : Hp) (K118 : Hp → Option (Int32 × Hp)) (k : Int32 → Hp → Option (Int32 × Hp)) : Option (Int32 × Hp) :=
  k (v4 + (1 : Int32)) h
set_option maxRecDepth 20000 in
theorem okj_X12_layHeld_112 {r : (Int32 × Hp)} (v0 : Nat) (v3 : Int32) (v4 : Int32)  (h : Hp) (K118 : Hp → Option (Int32 × Hp)) (k : Int32 → Hp → Option (Int32 × Hp)) (HK118 : ∀   (hq : Hp), K118 hq = some r → Go M_X12_layHeld (some (aI r.1), r.2) 118 [some (aA v0), none, none, some (aI v3), none, none] [] hq) (Hk : ∀ (v4q : Int32) (hq : Hp), k v4q hq = some r → Go M_X12_layHeld (some (aI r.1), r.2) 31 [some (aA v0), none, none, some (aI v3), some (aI v4q), none] [] hq) (H : j_X12_layHeld_112 v0 v3 v4 h K118 k = some r) : Go M_X12_layHeld (some (aI r.1), r.2) 112 [some (aA v0), none, none, some (aI v3), some (aI v4), none] [] h := by
  unfold j_X12_layHeld_112 at H
  refine go_iinc (v := (v4 + (1 : Int32))) (loc2 := [some (aA v0), none, none, some (aI v3), some (aI (v4 + (1 : Int32))), none]) dX12_layHeld_112 rfl rfl (by decide) rfl ?_
  refine go_goto (tgt := 31) dX12_layHeld_115 (by decide) ?_
  exact Hk (v4 + (1 : Int32)) h H
def b_X12_layHeld_31 (v0 : Nat) (v3 : Int32) (K118 : Hp → Option (Int32 × Hp)) (k : Int32 → Hp → Option (Int32 × Hp)) (v4 : Int32) (h : Hp) : Option (Int32 × Hp) :=
  if (4 : Int32) ≤ v4 then K118 h else (gfR h v0 12 29).bind fun x1 => (asI h x1 (((4 : Int32) * v3) + v4) (0 : Int32)).bind fun hh1 => l_X12_layHeld_52 v0 v3 v4 (fun hz2 => j_X12_layHeld_112 v0 v3 v4 hz2 K118 k) (0 : Int32) hh1
set_option maxRecDepth 20000 in
theorem okb_X12_layHeld_31 {r : (Int32 × Hp)} (v0 : Nat) (v3 : Int32) (K118 : Hp → Option (Int32 × Hp)) (k : Int32 → Hp → Option (Int32 × Hp)) (v4 : Int32) (h : Hp) (HK118 : ∀   (hq : Hp), K118 hq = some r → Go M_X12_layHeld (some (aI r.1), r.2) 118 [some (aA v0), none, none, some (aI v3), none, none] [] hq) (Hk : ∀ (v4q : Int32) (hq : Hp), k v4q hq = some r → Go M_X12_layHeld (some (aI r.1), r.2) 31 [some (aA v0), none, none, some (aI v3), some (aI v4q), none] [] hq) (H : b_X12_layHeld_31 v0 v3 K118 k v4 h = some r) : Go M_X12_layHeld (some (aI r.1), r.2) 31 [some (aA v0), none, none, some (aI v3), some (aI v4), none] [] h := by
  unfold b_X12_layHeld_31 at H
  refine go_iload dX12_layHeld_31 rfl ?_
  refine go_iconst (v := (4 : Int32)) dX12_layHeld_33 rfl ?_
  refine go_icmp_ge (tgt := 118) dX12_layHeld_34 (by decide) (fun c1 => ?_) (fun c1 => ?_)
  · replace H := (gm_ite H).1 c1
    refine go_mask [true, false, false, true, false, false] (loc' := [some (aA v0), none, none, some (aI v3), none, none]) rfl ?_
    exact HK118 h H
  · replace H := (gm_ite H).2 c1
    refine go_aloadn dX12_layHeld_37 rfl ?_
    refine gm_getR fd_X12_50 dX12_layHeld_38 H (fun x1 H => ?_)
    refine go_iconst (v := (4 : Int32)) dX12_layHeld_41 rfl ?_
    refine go_iloadn dX12_layHeld_42 rfl ?_
    refine go_imul dX12_layHeld_43 ?_
    refine go_iload dX12_layHeld_44 rfl ?_
    refine go_iadd dX12_layHeld_46 ?_
    refine go_iconst (v := (0 : Int32)) dX12_layHeld_47 rfl ?_
    refine gm_iast dX12_layHeld_48 H (fun hh1 H => ?_)
    refine go_iconst (v := (0 : Int32)) dX12_layHeld_49 rfl ?_
    refine go_istore (loc2 := [some (aA v0), none, none, some (aI v3), some (aI v4), some (aI (0 : Int32))]) dX12_layHeld_50 (by decide) rfl ?_
    refine okl_X12_layHeld_52 v0 v3 v4 (fun hz2 => j_X12_layHeld_112 v0 v3 v4 hz2 K118 k) (0 : Int32) hh1 ?_ H
    · intro hz2 H
      exact okj_X12_layHeld_112 v0 v3 v4 hz2 K118 k HK118 Hk H
def l_X12_layHeld_31 (v0 : Nat) (v3 : Int32) (K118 : Hp → Option (Int32 × Hp)) (v4 : Int32) (h : Hp) : Option (Int32 × Hp) := loopK FUEL (fun (k : Int32 × Hp → Option (Int32 × Hp)) (s : Int32 × Hp) => b_X12_layHeld_31 v0 v3 K118 (fun v4q hq => k (v4q, hq)) s.1 s.2) (v4, h)
theorem okl_X12_layHeld_31 {r : (Int32 × Hp)} (v0 : Nat) (v3 : Int32) (K118 : Hp → Option (Int32 × Hp)) (v4 : Int32) (h : Hp) (HK118 : ∀   (hq : Hp), K118 hq = some r → Go M_X12_layHeld (some (aI r.1), r.2) 118 [some (aA v0), none, none, some (aI v3), none, none] [] hq) (H : l_X12_layHeld_31 v0 v3 K118 v4 h = some r) : Go M_X12_layHeld (some (aI r.1), r.2) 31 [some (aA v0), none, none, some (aI v3), some (aI v4), none] [] h := by
  unfold l_X12_layHeld_31 at H
  exact go_loop (σ := Int32 × Hp) (body := (fun (k : Int32 × Hp → Option (Int32 × Hp)) (s : Int32 × Hp) => b_X12_layHeld_31 v0 v3 K118 (fun v4q hq => k (v4q, hq)) s.1 s.2)) (fun s => [some (aA v0), none, none, some (aI v3), some (aI s.1), none]) (fun s => s.2) (fun k s Hk H => okb_X12_layHeld_31 v0 v3 K118 (fun v4q hq => k (v4q, hq)) s.1 s.2 HK118 (fun v4q hq H => Hk (v4q, hq) H) H) FUEL (v4, h) H
def j_X12_layHeld_118 (v0 : Nat) (v3 : Int32)  (h : Hp) (k : Int32 → Hp → Option (Int32 × Hp)) : Option (Int32 × Hp) :=
  k (v3 + (1 : Int32)) h
set_option maxRecDepth 20000 in
theorem okj_X12_layHeld_118 {r : (Int32 × Hp)} (v0 : Nat) (v3 : Int32)  (h : Hp) (k : Int32 → Hp → Option (Int32 × Hp)) (Hk : ∀ (v3q : Int32) (hq : Hp), k v3q hq = some r → Go M_X12_layHeld (some (aI r.1), r.2) 20 [some (aA v0), none, none, some (aI v3q), none, none] [] hq) (H : j_X12_layHeld_118 v0 v3 h k = some r) : Go M_X12_layHeld (some (aI r.1), r.2) 118 [some (aA v0), none, none, some (aI v3), none, none] [] h := by
  unfold j_X12_layHeld_118 at H
  refine go_iinc (v := (v3 + (1 : Int32))) (loc2 := [some (aA v0), none, none, some (aI (v3 + (1 : Int32))), none, none]) dX12_layHeld_118 rfl rfl (by decide) rfl ?_
  refine go_goto (tgt := 20) dX12_layHeld_121 (by decide) ?_
  exact Hk (v3 + (1 : Int32)) h H
def b_X12_layHeld_20 (v0 : Nat) (k : Int32 → Hp → Option (Int32 × Hp)) (v3 : Int32) (h : Hp) : Option (Int32 × Hp) :=
  (rc h v0 12 (m_X12_askedMany v0 h)).bind fun x1 => if x1 ≤ v3 then (some ((1 : Int32), h)) else l_X12_layHeld_31 v0 v3 (fun hz2 => j_X12_layHeld_118 v0 v3 hz2 k) (0 : Int32) h
set_option maxRecDepth 20000 in
theorem okb_X12_layHeld_20 {r : (Int32 × Hp)} (v0 : Nat) (k : Int32 → Hp → Option (Int32 × Hp)) (v3 : Int32) (h : Hp) (Hk : ∀ (v3q : Int32) (hq : Hp), k v3q hq = some r → Go M_X12_layHeld (some (aI r.1), r.2) 20 [some (aA v0), none, none, some (aI v3q), none, none] [] hq) (H : b_X12_layHeld_20 v0 k v3 h = some r) : Go M_X12_layHeld (some (aI r.1), r.2) 20 [some (aA v0), none, none, some (aI v3), none, none] [] h := by
  unfold b_X12_layHeld_20 at H
  refine go_iloadn dX12_layHeld_20 rfl ?_
  refine go_aloadn dX12_layHeld_21 rfl ?_
  obtain ⟨c1, x1, ex1, H⟩ := gm_rc H
  refine go_callV (vs := []) (stk := [aI v3]) (o1 := (some (aI x1), h)) mk_X12_askedMany sv_X12_layHeld_377 cl_X12 rfl dX12_layHeld_22 c1 rfl rfl (Nat.le_of_ble_eq_true rfl) (Nat.le_of_ble_eq_true rfl) (ok_X12_askedMany ex1) (show Go M_X12_layHeld (some (aI r.1), r.2) 25 [some (aA v0), none, none, some (aI v3), none, none] [aI x1, aI v3] h from ?_)
  refine go_icmp_ge (tgt := 124) dX12_layHeld_25 (by decide) (fun c2 => ?_) (fun c2 => ?_)
  · replace H := (gm_ite H).1 c2
    refine go_iconst (v := (1 : Int32)) dX12_layHeld_124 rfl ?_
    obtain rfl := Option.some.inj H
    exact go_ireturn (x := (1 : Int32)) dX12_layHeld_125 (tyI_bool rfl (by decide))
  · replace H := (gm_ite H).2 c2
    refine go_iconst (v := (0 : Int32)) dX12_layHeld_28 rfl ?_
    refine go_istore (loc2 := [some (aA v0), none, none, some (aI v3), some (aI (0 : Int32)), none]) dX12_layHeld_29 (by decide) rfl ?_
    refine okl_X12_layHeld_31 v0 v3 (fun hz2 => j_X12_layHeld_118 v0 v3 hz2 k) (0 : Int32) h ?_ H
    · intro hz2 H
      exact okj_X12_layHeld_118 v0 v3 hz2 k Hk H
def l_X12_layHeld_20 (v0 : Nat) (v3 : Int32) (h : Hp) : Option (Int32 × Hp) := loopK FUEL (fun (k : Int32 × Hp → Option (Int32 × Hp)) (s : Int32 × Hp) => b_X12_layHeld_20 v0 (fun v3q hq => k (v3q, hq)) s.1 s.2) (v3, h)
theorem okl_X12_layHeld_20 {r : (Int32 × Hp)} (v0 : Nat) (v3 : Int32) (h : Hp) (H : l_X12_layHeld_20 v0 v3 h = some r) : Go M_X12_layHeld (some (aI r.1), r.2) 20 [some (aA v0), none, none, some (aI v3), none, none] [] h := by
  unfold l_X12_layHeld_20 at H
  exact go_loop (σ := Int32 × Hp) (body := (fun (k : Int32 × Hp → Option (Int32 × Hp)) (s : Int32 × Hp) => b_X12_layHeld_20 v0 (fun v3q hq => k (v3q, hq)) s.1 s.2)) (fun s => [some (aA v0), none, none, some (aI s.1), none, none]) (fun s => s.2) (fun k s Hk H => okb_X12_layHeld_20 v0 (fun v3q hq => k (v3q, hq)) s.1 s.2  (fun v3q hq H => Hk (v3q, hq) H) H) FUEL (v3, h) H
def m_X12_layHeld (v0 : Nat) (v1 : Int32) (v2 : Int32) (h : Hp) : Option (Int32 × Hp) :=
  (rc h v0 12 (m_X12_hasAsking v0 v2 h)).bind fun x1 => if x1.1 = 0 then (some ((0 : Int32), x1.2)) else (rc x1.2 v0 12 (m_X12_hand v0 v1 x1.2)).bind fun x2 => if ¬ x2.1 = 0 then (l_X12_layHeld_20 v0 (0 : Int32) x2.2) else some ((0 : Int32), x2.2)
set_option maxRecDepth 20000 in
theorem ok_X12_layHeld {r : (Int32 × Hp)} {v0 : Nat} {v1 : Int32} {v2 : Int32} {h : Hp} (H : m_X12_layHeld v0 v1 v2 h = some r) : Ev M_X12_layHeld [aA v0, aI v1, aI v2] h (some (aI r.1), r.2) := by
  show Go M_X12_layHeld (some (aI r.1), r.2) 0 [some (aA v0), some (aI v1), some (aI v2), none, none, none] [] h
  unfold m_X12_layHeld at H
  refine go_aloadn dX12_layHeld_0 rfl ?_
  refine go_iloadn dX12_layHeld_1 rfl ?_
  obtain ⟨c1, x1, ex1, H⟩ := gm_rc H
  refine go_callV (vs := [aI v2]) (stk := []) (o1 := (some (aI x1.1), x1.2)) mk_X12_hasAsking sv_X12_layHeld_374 cl_X12 rfl dX12_layHeld_2 c1 rfl rfl (Nat.le_of_ble_eq_true rfl) (Nat.le_of_ble_eq_true rfl) (ok_X12_hasAsking ex1) (show Go M_X12_layHeld (some (aI r.1), r.2) 5 [some (aA v0), some (aI v1), some (aI v2), none, none, none] [aI x1.1] x1.2 from ?_)
  refine go_if_eq (tgt := 16) dX12_layHeld_5 (by decide) (fun c2 => ?_) (fun c2 => ?_)
  · replace H := (gm_ite H).1 c2
    refine go_iconst (v := (0 : Int32)) dX12_layHeld_16 rfl ?_
    obtain rfl := Option.some.inj H
    exact go_ireturn (x := (0 : Int32)) dX12_layHeld_17 (tyI_bool rfl (by decide))
  · replace H := (gm_ite H).2 c2
    refine go_aloadn dX12_layHeld_8 rfl ?_
    refine go_iloadn dX12_layHeld_9 rfl ?_
    obtain ⟨c3, x2, ex2, H⟩ := gm_rc H
    refine go_callV (vs := [aI v1]) (stk := []) (o1 := (some (aI x2.1), x2.2)) mk_X12_hand sv_X12_layHeld_313 cl_X12 rfl dX12_layHeld_10 c3 rfl rfl (Nat.le_of_ble_eq_true rfl) (Nat.le_of_ble_eq_true rfl) (ok_X12_hand ex2) (show Go M_X12_layHeld (some (aI r.1), r.2) 13 [some (aA v0), some (aI v1), some (aI v2), none, none, none] [aI x2.1] x2.2 from ?_)
    refine go_if_ne (tgt := 18) dX12_layHeld_13 (by decide) (fun c4 => ?_) (fun c4 => ?_)
    · replace H := (gm_ite H).1 c4
      refine go_iconst (v := (0 : Int32)) dX12_layHeld_18 rfl ?_
      refine go_istoren (loc2 := [some (aA v0), some (aI v1), some (aI v2), some (aI (0 : Int32)), none, none]) dX12_layHeld_19 rfl (by decide) rfl ?_
      refine go_mask [true, false, false, true, false, false] (loc' := [some (aA v0), none, none, some (aI (0 : Int32)), none, none]) rfl ?_
      exact okl_X12_layHeld_20 v0 (0 : Int32) x2.2 H
    · replace H := (gm_ite H).2 c4
      refine go_iconst (v := (0 : Int32)) dX12_layHeld_16 rfl ?_
      obtain rfl := Option.some.inj H
      exact go_ireturn (x := (0 : Int32)) dX12_layHeld_17 (tyI_bool rfl (by decide))
/-! X12_isAsking -/
def m_X12_isAsking (v0 : Nat) (v1 : Int32) (h : Hp) : Option Int32 :=
  (rc h v0 12 (m_X12_askedMany v0 h)).bind fun x1 => (m_X12_in v1 (0 : Int32) (x1 - (1 : Int32)) h).bind fun x2 => (zb x2).bind fun x3 => some x3
set_option maxRecDepth 20000 in
theorem ok_X12_isAsking {r : Int32} {v0 : Nat} {v1 : Int32} {h : Hp} (H : m_X12_isAsking v0 v1 h = some r) : Ev M_X12_isAsking [aA v0, aI v1] h (some (aI r), h) := by
  show Go M_X12_isAsking (some (aI r), h) 0 [some (aA v0), some (aI v1)] [] h
  unfold m_X12_isAsking at H
  refine go_iloadn dX12_isAsking_0 rfl ?_
  refine go_iconst (v := (0 : Int32)) dX12_isAsking_1 rfl ?_
  refine go_aloadn dX12_isAsking_2 rfl ?_
  obtain ⟨c1, x1, ex1, H⟩ := gm_rc H
  refine go_callV (vs := []) (stk := [aI (0 : Int32), aI v1]) (o1 := (some (aI x1), h)) mk_X12_askedMany sv_X12_isAsking_377 cl_X12 rfl dX12_isAsking_3 c1 rfl rfl (Nat.le_of_ble_eq_true rfl) (Nat.le_of_ble_eq_true rfl) (ok_X12_askedMany ex1) (show Go M_X12_isAsking (some (aI r), h) 6 [some (aA v0), some (aI v1)] [aI x1, aI (0 : Int32), aI v1] h from ?_)
  refine go_iconst (v := (1 : Int32)) dX12_isAsking_6 rfl ?_
  refine go_isub dX12_isAsking_7 ?_
  obtain ⟨x2, ex2, H⟩ := bind_some H
  refine go_callS (vs := [aI v1, aI (0 : Int32), aI (x1 - (1 : Int32))]) (stk := []) (o1 := (some (aI x2), h)) mk_X12_in ss_X12_isAsking_72 dX12_isAsking_8 rfl rfl (Nat.le_of_ble_eq_true rfl) (Nat.le_of_ble_eq_true rfl) (ok_X12_in ex2) (show Go M_X12_isAsking (some (aI r), h) 11 [some (aA v0), some (aI v1)] [aI x2] h from ?_)
  obtain ⟨hz, H⟩ := gm_zb H
  obtain rfl := Option.some.inj H
  exact go_ireturn (x := x2) dX12_isAsking_11 (tyI_bool rfl hz)
/-! X12_holds -/
def j_X12_holds_59  (s0 : Int32) (h : Hp) : Option (Int32 × Hp) :=
  some (s0, h)
set_option maxRecDepth 20000 in
theorem okj_X12_holds_59 {r : (Int32 × Hp)}  (s0 : Int32) (h : Hp) (H : j_X12_holds_59 s0 h = some r) : Go M_X12_holds (some (aI r.1), r.2) 59 [none, none, none, none, none, none] [aI s0] h := by
  unfold j_X12_holds_59 at H
  obtain rfl := Option.some.inj H
  exact go_ireturn dX12_holds_59 (tyI_int rfl)
def m_X12_holds (v0 : Nat) (v1 : Int32) (v2 : Int32) (v3 : Int32) (v4 : Int32) (v5 : Int32) (h : Hp) : Option (Int32 × Hp) :=
  (pfI h v0 12 0 (0 : Int32)).bind fun hh1 => (rc hh1 v0 12 (m_X12_layHeld v0 v1 v2 hh1)).bind fun x1 => if x1.1 = 0 then (some ((-1 : Int32), x1.2)) else (rc x1.2 v0 12 (m_X12_isAsking v0 v3 x1.2)).bind fun x2 => if x2 = 0 then (some ((-1 : Int32), x1.2)) else (rc x1.2 v0 12 (m_X12_isVersion v0 v4 v5 x1.2)).bind fun x3 => if ¬ x3 = 0 then ((gfR x1.2 v0 12 29).bind fun x4 => (alI x1.2 x4 (((4 : Int32) * v3) + v4)).bind fun x5 => (m_X12_has x5 v5 x1.2).bind fun x6 => j_X12_holds_59 (if x6 = 0 then (0 : Int32) else (1 : Int32)) x1.2) else some ((-1 : Int32), x1.2)
set_option maxRecDepth 20000 in
theorem ok_X12_holds {r : (Int32 × Hp)} {v0 : Nat} {v1 : Int32} {v2 : Int32} {v3 : Int32} {v4 : Int32} {v5 : Int32} {h : Hp} (H : m_X12_holds v0 v1 v2 v3 v4 v5 h = some r) : Ev M_X12_holds [aA v0, aI v1, aI v2, aI v3, aI v4, aI v5] h (some (aI r.1), r.2) := by
  show Go M_X12_holds (some (aI r.1), r.2) 0 [some (aA v0), some (aI v1), some (aI v2), some (aI v3), some (aI v4), some (aI v5)] [] h
  unfold m_X12_holds at H
  refine go_aloadn dX12_holds_0 rfl ?_
  refine go_iconst (v := (0 : Int32)) dX12_holds_1 rfl ?_
  refine gm_putI fd_X12_60 (Or.inl rfl) dX12_holds_2 H (fun hh1 H => ?_)
  refine go_aloadn dX12_holds_5 rfl ?_
  refine go_iloadn dX12_holds_6 rfl ?_
  refine go_iloadn dX12_holds_7 rfl ?_
  obtain ⟨c1, x1, ex1, H⟩ := gm_rc H
  refine go_callV (vs := [aI v1, aI v2]) (stk := []) (o1 := (some (aI x1.1), x1.2)) mk_X12_layHeld sv_X12_holds_395 cl_X12 rfl dX12_holds_8 c1 rfl rfl (Nat.le_of_ble_eq_true rfl) (Nat.le_of_ble_eq_true rfl) (ok_X12_layHeld ex1) (show Go M_X12_holds (some (aI r.1), r.2) 11 [some (aA v0), some (aI v1), some (aI v2), some (aI v3), some (aI v4), some (aI v5)] [aI x1.1] x1.2 from ?_)
  refine go_if_eq (tgt := 33) dX12_holds_11 (by decide) (fun c2 => ?_) (fun c2 => ?_)
  · replace H := (gm_ite H).1 c2
    refine go_iconst (v := (-1 : Int32)) dX12_holds_33 rfl ?_
    obtain rfl := Option.some.inj H
    exact go_ireturn dX12_holds_34 (tyI_int rfl)
  · replace H := (gm_ite H).2 c2
    refine go_aloadn dX12_holds_14 rfl ?_
    refine go_iloadn dX12_holds_15 rfl ?_
    obtain ⟨c3, x2, ex2, H⟩ := gm_rc H
    refine go_callV (vs := [aI v3]) (stk := []) (o1 := (some (aI x2), x1.2)) mk_X12_isAsking sv_X12_holds_398 cl_X12 rfl dX12_holds_16 c3 rfl rfl (Nat.le_of_ble_eq_true rfl) (Nat.le_of_ble_eq_true rfl) (ok_X12_isAsking ex2) (show Go M_X12_holds (some (aI r.1), r.2) 19 [some (aA v0), some (aI v1), some (aI v2), some (aI v3), some (aI v4), some (aI v5)] [aI x2] x1.2 from ?_)
    refine go_if_eq (tgt := 33) dX12_holds_19 (by decide) (fun c4 => ?_) (fun c4 => ?_)
    · replace H := (gm_ite H).1 c4
      refine go_iconst (v := (-1 : Int32)) dX12_holds_33 rfl ?_
      obtain rfl := Option.some.inj H
      exact go_ireturn dX12_holds_34 (tyI_int rfl)
    · replace H := (gm_ite H).2 c4
      refine go_aloadn dX12_holds_22 rfl ?_
      refine go_iload dX12_holds_23 rfl ?_
      refine go_iload dX12_holds_25 rfl ?_
      obtain ⟨c5, x3, ex3, H⟩ := gm_rc H
      refine go_callV (vs := [aI v4, aI v5]) (stk := []) (o1 := (some (aI x3), x1.2)) mk_X12_isVersion sv_X12_holds_284 cl_X12 rfl dX12_holds_27 c5 rfl rfl (Nat.le_of_ble_eq_true rfl) (Nat.le_of_ble_eq_true rfl) (ok_X12_isVersion ex3) (show Go M_X12_holds (some (aI r.1), r.2) 30 [some (aA v0), some (aI v1), some (aI v2), some (aI v3), some (aI v4), some (aI v5)] [aI x3] x1.2 from ?_)
      refine go_if_ne (tgt := 35) dX12_holds_30 (by decide) (fun c6 => ?_) (fun c6 => ?_)
      · replace H := (gm_ite H).1 c6
        refine go_aloadn dX12_holds_35 rfl ?_
        refine gm_getR fd_X12_50 dX12_holds_36 H (fun x4 H => ?_)
        refine go_iconst (v := (4 : Int32)) dX12_holds_39 rfl ?_
        refine go_iloadn dX12_holds_40 rfl ?_
        refine go_imul dX12_holds_41 ?_
        refine go_iload dX12_holds_42 rfl ?_
        refine go_iadd dX12_holds_44 ?_
        refine gm_iald dX12_holds_45 H (fun x5 H => ?_)
        refine go_iload dX12_holds_46 rfl ?_
        obtain ⟨x6, ex6, H⟩ := bind_some H
        refine go_callS (vs := [aI x5, aI v5]) (stk := []) (o1 := (some (aI x6), x1.2)) mk_X12_has ss_X12_holds_64 dX12_holds_48 rfl rfl (Nat.le_of_ble_eq_true rfl) (Nat.le_of_ble_eq_true rfl) (ok_X12_has ex6) (show Go M_X12_holds (some (aI r.1), r.2) 51 [some (aA v0), some (aI v1), some (aI v2), some (aI v3), some (aI v4), some (aI v5)] [aI x6] x1.2 from ?_)
        refine go_if_eq (tgt := 58) dX12_holds_51 (by decide) (fun c8 => ?_) (fun c8 => ?_)
        · rw [if_pos c8] at H
          refine go_iconst (v := (0 : Int32)) dX12_holds_58 rfl ?_
          refine go_mask [false, false, false, false, false, false] (loc' := [none, none, none, none, none, none]) rfl ?_
          exact okj_X12_holds_59 (0 : Int32) x1.2  H
        · rw [if_neg c8] at H
          refine go_iconst (v := (1 : Int32)) dX12_holds_54 rfl ?_
          refine go_goto (tgt := 59) dX12_holds_55 (by decide) ?_
          refine go_mask [false, false, false, false, false, false] (loc' := [none, none, none, none, none, none]) rfl ?_
          exact okj_X12_holds_59 (1 : Int32) x1.2  H
      · replace H := (gm_ite H).2 c6
        refine go_iconst (v := (-1 : Int32)) dX12_holds_33 rfl ?_
        obtain rfl := Option.some.inj H
        exact go_ireturn dX12_holds_34 (tyI_int rfl)
/-! X5_runAt -/
def j_X5_runAt_53 (v0 : Int32) (v1 : Int32) (v2 : Int32) (v3 : Int32) (v4 : Int32)  (h : Hp) (k : Int32 → Int32 → Int32 → Option Int32) : Option Int32 :=
  k v2 v3 (v4 + (1 : Int32))
set_option maxRecDepth 20000 in
theorem okj_X5_runAt_53 {r : Int32} (v0 : Int32) (v1 : Int32) (v2 : Int32) (v3 : Int32) (v4 : Int32)  (h : Hp) (k : Int32 → Int32 → Int32 → Option Int32) (Hk : ∀ (v2q : Int32) (v3q : Int32) (v4q : Int32), k v2q v3q v4q = some r → Go M_X5_runAt (some (aI r), h) 7 [some (aI v0), some (aI v1), some (aI v2q), some (aI v3q), some (aI v4q)] [] h) (H : j_X5_runAt_53 v0 v1 v2 v3 v4 h k = some r) : Go M_X5_runAt (some (aI r), h) 53 [some (aI v0), some (aI v1), some (aI v2), some (aI v3), some (aI v4)] [] h := by
  unfold j_X5_runAt_53 at H
  refine go_iinc (v := (v4 + (1 : Int32))) (loc2 := [some (aI v0), some (aI v1), some (aI v2), some (aI v3), some (aI (v4 + (1 : Int32)))]) dX5_runAt_53 rfl rfl (by decide) rfl ?_
  refine go_goto (tgt := 7) dX5_runAt_56 (by decide) ?_
  exact Hk v2 v3 (v4 + (1 : Int32)) H
def j_X5_runAt_51 (v0 : Int32) (v1 : Int32) (v3 : Int32) (v4 : Int32) (s0 : Int32) (s1 : Int32) (h : Hp) (k : Int32 → Int32 → Int32 → Option Int32) : Option Int32 :=
  j_X5_runAt_53 v0 v1 (s0 ||| s1) v3 v4 h k
set_option maxRecDepth 20000 in
theorem okj_X5_runAt_51 {r : Int32} (v0 : Int32) (v1 : Int32) (v3 : Int32) (v4 : Int32) (s0 : Int32) (s1 : Int32) (h : Hp) (k : Int32 → Int32 → Int32 → Option Int32) (Hk : ∀ (v2q : Int32) (v3q : Int32) (v4q : Int32), k v2q v3q v4q = some r → Go M_X5_runAt (some (aI r), h) 7 [some (aI v0), some (aI v1), some (aI v2q), some (aI v3q), some (aI v4q)] [] h) (H : j_X5_runAt_51 v0 v1 v3 v4 s0 s1 h k = some r) : Go M_X5_runAt (some (aI r), h) 51 [some (aI v0), some (aI v1), none, some (aI v3), some (aI v4)] [aI s1, aI s0] h := by
  unfold j_X5_runAt_51 at H
  refine go_ior dX5_runAt_51 ?_
  refine go_istoren (loc2 := [some (aI v0), some (aI v1), some (aI (s0 ||| s1)), some (aI v3), some (aI v4)]) dX5_runAt_52 rfl (by decide) rfl ?_
  exact okj_X5_runAt_53 v0 v1 (s0 ||| s1) v3 v4 h k Hk H
def b_X5_runAt_7 (v0 : Int32) (v1 : Int32) (h : Hp) (k : Int32 → Int32 → Int32 → Option Int32) (v2 : Int32) (v3 : Int32) (v4 : Int32) : Option Int32 :=
  if (32 : Int32) ≤ v4 then (some v2) else (m_X5_bit v0 v4 h).bind fun x1 => if ¬ x1 = (1 : Int32) then j_X5_runAt_53 v0 v1 v2 v3 v4 h k else (m_X5_bit v0 (v4 - (1 : Int32)) h).bind fun x2 => if ¬ (v3 + ((1 : Int32) - x2)) = v1 then j_X5_runAt_51 v0 v1 (v3 + ((1 : Int32) - x2)) v4 v2 (0 : Int32) h k else j_X5_runAt_51 v0 v1 (v3 + ((1 : Int32) - x2)) v4 v2 (ishlF (1 : Int32) v4) h k
set_option maxRecDepth 20000 in
theorem okb_X5_runAt_7 {r : Int32} (v0 : Int32) (v1 : Int32) (h : Hp) (k : Int32 → Int32 → Int32 → Option Int32) (v2 : Int32) (v3 : Int32) (v4 : Int32) (Hk : ∀ (v2q : Int32) (v3q : Int32) (v4q : Int32), k v2q v3q v4q = some r → Go M_X5_runAt (some (aI r), h) 7 [some (aI v0), some (aI v1), some (aI v2q), some (aI v3q), some (aI v4q)] [] h) (H : b_X5_runAt_7 v0 v1 h k v2 v3 v4 = some r) : Go M_X5_runAt (some (aI r), h) 7 [some (aI v0), some (aI v1), some (aI v2), some (aI v3), some (aI v4)] [] h := by
  unfold b_X5_runAt_7 at H
  refine go_iload dX5_runAt_7 rfl ?_
  refine go_bipush (v := (32 : Int32)) dX5_runAt_9 rfl ?_
  refine go_icmp_ge (tgt := 59) dX5_runAt_11 (by decide) (fun c1 => ?_) (fun c1 => ?_)
  · replace H := (gm_ite H).1 c1
    refine go_iloadn dX5_runAt_59 rfl ?_
    obtain rfl := Option.some.inj H
    exact go_ireturn dX5_runAt_60 (tyI_int rfl)
  · replace H := (gm_ite H).2 c1
    refine go_iloadn dX5_runAt_14 rfl ?_
    refine go_iload dX5_runAt_15 rfl ?_
    obtain ⟨x1, ex1, H⟩ := bind_some H
    refine go_callS (vs := [aI v0, aI v4]) (stk := []) (o1 := (some (aI x1), h)) mk_X5_bit ss_X5_runAt_29 dX5_runAt_17 rfl rfl (Nat.le_of_ble_eq_true rfl) (Nat.le_of_ble_eq_true rfl) (ok_X5_bit ex1) (show Go M_X5_runAt (some (aI r), h) 20 [some (aI v0), some (aI v1), some (aI v2), some (aI v3), some (aI v4)] [aI x1] h from ?_)
    refine go_iconst (v := (1 : Int32)) dX5_runAt_20 rfl ?_
    refine go_icmp_ne (tgt := 53) dX5_runAt_21 (by decide) (fun c3 => ?_) (fun c3 => ?_)
    · replace H := (gm_ite H).1 c3
      exact okj_X5_runAt_53 v0 v1 v2 v3 v4 h k Hk H
    · replace H := (gm_ite H).2 c3
      refine go_iloadn dX5_runAt_24 rfl ?_
      refine go_iconst (v := (1 : Int32)) dX5_runAt_25 rfl ?_
      refine go_iloadn dX5_runAt_26 rfl ?_
      refine go_iload dX5_runAt_27 rfl ?_
      refine go_iconst (v := (1 : Int32)) dX5_runAt_29 rfl ?_
      refine go_isub dX5_runAt_30 ?_
      obtain ⟨x2, ex2, H⟩ := bind_some H
      refine go_callS (vs := [aI v0, aI (v4 - (1 : Int32))]) (stk := [aI (1 : Int32), aI v3]) (o1 := (some (aI x2), h)) mk_X5_bit ss_X5_runAt_29 dX5_runAt_31 rfl rfl (Nat.le_of_ble_eq_true rfl) (Nat.le_of_ble_eq_true rfl) (ok_X5_bit ex2) (show Go M_X5_runAt (some (aI r), h) 34 [some (aI v0), some (aI v1), some (aI v2), some (aI v3), some (aI v4)] [aI x2, aI (1 : Int32), aI v3] h from ?_)
      refine go_isub dX5_runAt_34 ?_
      refine go_iadd dX5_runAt_35 ?_
      refine go_istoren (loc2 := [some (aI v0), some (aI v1), some (aI v2), some (aI (v3 + ((1 : Int32) - x2))), some (aI v4)]) dX5_runAt_36 rfl (by decide) rfl ?_
      refine go_iloadn dX5_runAt_37 rfl ?_
      refine go_iloadn dX5_runAt_38 rfl ?_
      refine go_iloadn dX5_runAt_39 rfl ?_
      refine go_icmp_ne (tgt := 50) dX5_runAt_40 (by decide) (fun c5 => ?_) (fun c5 => ?_)
      · replace H := (gm_ite H).1 c5
        refine go_iconst (v := (0 : Int32)) dX5_runAt_50 rfl ?_
        refine go_mask [true, true, false, true, true] (loc' := [some (aI v0), some (aI v1), none, some (aI (v3 + ((1 : Int32) - x2))), some (aI v4)]) rfl ?_
        exact okj_X5_runAt_51 v0 v1 (v3 + ((1 : Int32) - x2)) v4 v2 (0 : Int32) h k Hk H
      · replace H := (gm_ite H).2 c5
        refine go_iconst (v := (1 : Int32)) dX5_runAt_43 rfl ?_
        refine go_iload dX5_runAt_44 rfl ?_
        refine go_ishl dX5_runAt_46 ?_
        refine go_goto (tgt := 51) dX5_runAt_47 (by decide) ?_
        refine go_mask [true, true, false, true, true] (loc' := [some (aI v0), some (aI v1), none, some (aI (v3 + ((1 : Int32) - x2))), some (aI v4)]) rfl ?_
        exact okj_X5_runAt_51 v0 v1 (v3 + ((1 : Int32) - x2)) v4 v2 (ishlF (1 : Int32) v4) h k Hk H
def l_X5_runAt_7 (v0 : Int32) (v1 : Int32) (h : Hp) (v2 : Int32) (v3 : Int32) (v4 : Int32) : Option Int32 := loopK FUEL (fun (k : Int32 × Int32 × Int32 → Option Int32) (s : Int32 × Int32 × Int32) => b_X5_runAt_7 v0 v1 h (fun v2q v3q v4q => k (v2q, v3q, v4q)) s.1 s.2.1 s.2.2) (v2, v3, v4)
theorem okl_X5_runAt_7 {r : Int32} (v0 : Int32) (v1 : Int32) (h : Hp) (v2 : Int32) (v3 : Int32) (v4 : Int32) (H : l_X5_runAt_7 v0 v1 h v2 v3 v4 = some r) : Go M_X5_runAt (some (aI r), h) 7 [some (aI v0), some (aI v1), some (aI v2), some (aI v3), some (aI v4)] [] h := by
  unfold l_X5_runAt_7 at H
  exact go_loop (σ := Int32 × Int32 × Int32) (body := (fun (k : Int32 × Int32 × Int32 → Option Int32) (s : Int32 × Int32 × Int32) => b_X5_runAt_7 v0 v1 h (fun v2q v3q v4q => k (v2q, v3q, v4q)) s.1 s.2.1 s.2.2)) (fun s => [some (aI v0), some (aI v1), some (aI s.1), some (aI s.2.1), some (aI s.2.2)]) (fun s => h) (fun k s Hk H => okb_X5_runAt_7 v0 v1 h (fun v2q v3q v4q => k (v2q, v3q, v4q)) s.1 s.2.1 s.2.2  (fun v2q v3q v4q H => Hk (v2q, v3q, v4q) H) H) FUEL (v2, v3, v4) H
def m_X5_runAt (v0 : Int32) (v1 : Int32) (h : Hp) : Option Int32 :=
  l_X5_runAt_7 v0 v1 h (0 : Int32) (-1 : Int32) (0 : Int32)
set_option maxRecDepth 20000 in
theorem ok_X5_runAt {r : Int32} {v0 : Int32} {v1 : Int32} {h : Hp} (H : m_X5_runAt v0 v1 h = some r) : Ev M_X5_runAt [aI v0, aI v1] h (some (aI r), h) := by
  show Go M_X5_runAt (some (aI r), h) 0 [some (aI v0), some (aI v1), none, none, none] [] h
  unfold m_X5_runAt at H
  refine go_iconst (v := (0 : Int32)) dX5_runAt_0 rfl ?_
  refine go_istoren (loc2 := [some (aI v0), some (aI v1), some (aI (0 : Int32)), none, none]) dX5_runAt_1 rfl (by decide) rfl ?_
  refine go_iconst (v := (-1 : Int32)) dX5_runAt_2 rfl ?_
  refine go_istoren (loc2 := [some (aI v0), some (aI v1), some (aI (0 : Int32)), some (aI (-1 : Int32)), none]) dX5_runAt_3 rfl (by decide) rfl ?_
  refine go_iconst (v := (0 : Int32)) dX5_runAt_4 rfl ?_
  refine go_istore (loc2 := [some (aI v0), some (aI v1), some (aI (0 : Int32)), some (aI (-1 : Int32)), some (aI (0 : Int32))]) dX5_runAt_5 (by decide) rfl ?_
  exact okl_X5_runAt_7 v0 v1 h (0 : Int32) (-1 : Int32) (0 : Int32) H
/-! X11_spans -/
def j_X11_spans_114  (s0 : Int32) (h : Hp) : Option (Int32 × Hp) :=
  some (s0, h)
set_option maxRecDepth 20000 in
theorem okj_X11_spans_114 {r : (Int32 × Hp)}  (s0 : Int32) (h : Hp) (H : j_X11_spans_114 s0 h = some r) : Go M_X11_spans (some (aI r.1), r.2) 114 [none, none, none, none, none, none, none, none, none, none, none] [aI s0] h := by
  unfold j_X11_spans_114 at H
  obtain rfl := Option.some.inj H
  exact go_ireturn dX11_spans_114 (tyI_int rfl)
def m_X11_spans (v0 : Nat) (v1 : Int32) (v2 : Int32) (v3 : Int32) (v4 : Int32) (v5 : Int32) (v6 : Int32) (h : Hp) : Option (Int32 × Hp) :=
  (gfR h v0 11 0).bind fun x1 => (rc h x1 9 (m_X9_archiveAt x1 v1 h)).bind fun x2 => (gfR h v0 11 0).bind fun x3 => (rc h x3 9 (m_X9_questionsAt x3 v2 h)).bind fun x4 => (nz x2).bind fun _ => if x2 = 0 then (some ((-1 : Int32), h)) else (nz x4).bind fun _ => if x4 = 0 then (some ((-1 : Int32), h)) else (rc h x4 6 (m_X6_has x4 v3 h)).bind fun x5 => if x5 = 0 then (some ((-1 : Int32), h)) else (rc h x2 1 (m_X0_hasDocument x2 v4 h)).bind fun x6 => if ¬ x6 = 0 then ((gfR h v0 11 4).bind fun x7 => (rc h x7 8 (m_X8_look x7 x2 x4 v3 h)).bind fun x8 => (gfR x8 v0 11 4).bind fun x9 => (rc x8 x9 8 (m_X8_held x9 v3 v4 x8)).bind fun x10 => if ¬ v5 = (-1 : Int32) then ((m_X5_runAt x10 v5 x8).bind fun x11 => if v6 = 0 then ((m_X5_firstBit x11 x8).bind fun x12 => j_X11_spans_114 x12 x8) else (m_X5_lastBit x11 x8).bind fun x13 => j_X11_spans_114 x13 x8) else (m_X5_runs x10 x8).bind fun x14 => some (x14, x8)) else some ((-1 : Int32), h)
set_option maxRecDepth 20000 in
theorem ok_X11_spans {r : (Int32 × Hp)} {v0 : Nat} {v1 : Int32} {v2 : Int32} {v3 : Int32} {v4 : Int32} {v5 : Int32} {v6 : Int32} {h : Hp} (H : m_X11_spans v0 v1 v2 v3 v4 v5 v6 h = some r) : Ev M_X11_spans [aA v0, aI v1, aI v2, aI v3, aI v4, aI v5, aI v6] h (some (aI r.1), r.2) := by
  show Go M_X11_spans (some (aI r.1), r.2) 0 [some (aA v0), some (aI v1), some (aI v2), some (aI v3), some (aI v4), some (aI v5), some (aI v6), none, none, none, none] [] h
  unfold m_X11_spans at H
  refine go_aloadn dX11_spans_0 rfl ?_
  refine gm_getR fd_X11_10 dX11_spans_1 H (fun x1 H => ?_)
  refine go_iloadn dX11_spans_4 rfl ?_
  obtain ⟨c1, x2, ex2, H⟩ := gm_rc H
  refine go_callV (vs := [aI v1]) (stk := []) (o1 := (some (aA x2), h)) mk_X9_archiveAt sv_X11_spans_86 cl_X9 rfl dX11_spans_5 c1 rfl rfl (Nat.le_of_ble_eq_true rfl) (Nat.le_of_ble_eq_true rfl) (ok_X9_archiveAt ex2) (show Go M_X11_spans (some (aI r.1), r.2) 8 [some (aA v0), some (aI v1), some (aI v2), some (aI v3), some (aI v4), some (aI v5), some (aI v6), none, none, none, none] [aA x2] h from ?_)
  refine go_astore (loc2 := [some (aA v0), some (aI v1), some (aI v2), some (aI v3), some (aI v4), some (aI v5), some (aI v6), some (aA x2), none, none, none]) dX11_spans_8 (by decide) rfl ?_
  refine go_aloadn dX11_spans_10 rfl ?_
  refine gm_getR fd_X11_10 dX11_spans_11 H (fun x3 H => ?_)
  refine go_iloadn dX11_spans_14 rfl ?_
  obtain ⟨c2, x4, ex4, H⟩ := gm_rc H
  refine go_callV (vs := [aI v2]) (stk := []) (o1 := (some (aA x4), h)) mk_X9_questionsAt sv_X11_spans_231 cl_X9 rfl dX11_spans_15 c2 rfl rfl (Nat.le_of_ble_eq_true rfl) (Nat.le_of_ble_eq_true rfl) (ok_X9_questionsAt ex4) (show Go M_X11_spans (some (aI r.1), r.2) 18 [some (aA v0), some (aI v1), some (aI v2), some (aI v3), some (aI v4), some (aI v5), some (aI v6), some (aA x2), none, none, none] [aA x4] h from ?_)
  refine go_astore (loc2 := [some (aA v0), some (aI v1), some (aI v2), some (aI v3), some (aI v4), some (aI v5), some (aI v6), some (aA x2), some (aA x4), none, none]) dX11_spans_18 (by decide) rfl ?_
  refine go_aload dX11_spans_20 rfl ?_
  obtain ⟨c4, H⟩ := gm_nz H
  refine go_ifnull (tgt := 49) dX11_spans_22 (by decide) c4 (fun c3 => ?_) (fun c3 => ?_)
  · replace H := (gm_ite H).1 c3
    refine go_iconst (v := (-1 : Int32)) dX11_spans_49 rfl ?_
    obtain rfl := Option.some.inj H
    exact go_ireturn dX11_spans_50 (tyI_int rfl)
  · replace H := (gm_ite H).2 c3
    refine go_aload dX11_spans_25 rfl ?_
    obtain ⟨c6, H⟩ := gm_nz H
    refine go_ifnull (tgt := 49) dX11_spans_27 (by decide) c6 (fun c5 => ?_) (fun c5 => ?_)
    · replace H := (gm_ite H).1 c5
      refine go_iconst (v := (-1 : Int32)) dX11_spans_49 rfl ?_
      obtain rfl := Option.some.inj H
      exact go_ireturn dX11_spans_50 (tyI_int rfl)
    · replace H := (gm_ite H).2 c5
      refine go_aload dX11_spans_30 rfl ?_
      refine go_iloadn dX11_spans_32 rfl ?_
      obtain ⟨c7, x5, ex5, H⟩ := gm_rc H
      refine go_callV (vs := [aI v3]) (stk := []) (o1 := (some (aI x5), h)) mk_X6_has sv_X11_spans_239 cl_X6 rfl dX11_spans_33 c7 rfl rfl (Nat.le_of_ble_eq_true rfl) (Nat.le_of_ble_eq_true rfl) (ok_X6_has ex5) (show Go M_X11_spans (some (aI r.1), r.2) 36 [some (aA v0), some (aI v1), some (aI v2), some (aI v3), some (aI v4), some (aI v5), some (aI v6), some (aA x2), some (aA x4), none, none] [aI x5] h from ?_)
      refine go_if_eq (tgt := 49) dX11_spans_36 (by decide) (fun c8 => ?_) (fun c8 => ?_)
      · replace H := (gm_ite H).1 c8
        refine go_iconst (v := (-1 : Int32)) dX11_spans_49 rfl ?_
        obtain rfl := Option.some.inj H
        exact go_ireturn dX11_spans_50 (tyI_int rfl)
      · replace H := (gm_ite H).2 c8
        refine go_aload dX11_spans_39 rfl ?_
        refine go_iload dX11_spans_41 rfl ?_
        obtain ⟨c9, x6, ex6, H⟩ := gm_rc H
        refine go_callV (vs := [aI v4]) (stk := []) (o1 := (some (aI x6), h)) mk_X0_hasDocument sv_X11_spans_122 cl_X0 rfl dX11_spans_43 c9 rfl rfl (Nat.le_of_ble_eq_true rfl) (Nat.le_of_ble_eq_true rfl) (ok_X0_hasDocument ex6) (show Go M_X11_spans (some (aI r.1), r.2) 46 [some (aA v0), some (aI v1), some (aI v2), some (aI v3), some (aI v4), some (aI v5), some (aI v6), some (aA x2), some (aA x4), none, none] [aI x6] h from ?_)
        refine go_if_ne (tgt := 51) dX11_spans_46 (by decide) (fun c10 => ?_) (fun c10 => ?_)
        · replace H := (gm_ite H).1 c10
          refine go_aloadn dX11_spans_51 rfl ?_
          refine gm_getR fd_X11_37 dX11_spans_52 H (fun x7 H => ?_)
          refine go_aload dX11_spans_55 rfl ?_
          refine go_aload dX11_spans_57 rfl ?_
          refine go_iloadn dX11_spans_59 rfl ?_
          obtain ⟨c11, x8, ex8, H⟩ := gm_rc H
          refine go_callV (vs := [aA x2, aA x4, aI v3]) (stk := []) (o1 := (none, x8)) mk_X8_look sv_X11_spans_254 cl_X8 rfl dX11_spans_60 c11 rfl rfl (Nat.le_of_ble_eq_true rfl) (Nat.le_of_ble_eq_true rfl) (ok_X8_look ex8) (show Go M_X11_spans (some (aI r.1), r.2) 63 [some (aA v0), some (aI v1), some (aI v2), some (aI v3), some (aI v4), some (aI v5), some (aI v6), some (aA x2), some (aA x4), none, none] [] x8 from ?_)
          refine go_aloadn dX11_spans_63 rfl ?_
          refine gm_getR fd_X11_37 dX11_spans_64 H (fun x9 H => ?_)
          refine go_iloadn dX11_spans_67 rfl ?_
          refine go_iload dX11_spans_68 rfl ?_
          obtain ⟨c12, x10, ex10, H⟩ := gm_rc H
          refine go_callV (vs := [aI v3, aI v4]) (stk := []) (o1 := (some (aI x10), x8)) mk_X8_held sv_X11_spans_258 cl_X8 rfl dX11_spans_70 c12 rfl rfl (Nat.le_of_ble_eq_true rfl) (Nat.le_of_ble_eq_true rfl) (ok_X8_held ex10) (show Go M_X11_spans (some (aI r.1), r.2) 73 [some (aA v0), some (aI v1), some (aI v2), some (aI v3), some (aI v4), some (aI v5), some (aI v6), some (aA x2), some (aA x4), none, none] [aI x10] x8 from ?_)
          refine go_istore (loc2 := [some (aA v0), some (aI v1), some (aI v2), some (aI v3), some (aI v4), some (aI v5), some (aI v6), some (aA x2), some (aA x4), some (aI x10), none]) dX11_spans_73 (by decide) rfl ?_
          refine go_iload dX11_spans_75 rfl ?_
          refine go_iconst (v := (-1 : Int32)) dX11_spans_77 rfl ?_
          refine go_icmp_ne (tgt := 87) dX11_spans_78 (by decide) (fun c13 => ?_) (fun c13 => ?_)
          · replace H := (gm_ite H).1 c13
            refine go_iload dX11_spans_87 rfl ?_
            refine go_iload dX11_spans_89 rfl ?_
            obtain ⟨x11, ex11, H⟩ := bind_some H
            refine go_callS (vs := [aI x10, aI v5]) (stk := []) (o1 := (some (aI x11), x8)) mk_X5_runAt ss_X11_spans_264 dX11_spans_91 rfl rfl (Nat.le_of_ble_eq_true rfl) (Nat.le_of_ble_eq_true rfl) (ok_X5_runAt ex11) (show Go M_X11_spans (some (aI r.1), r.2) 94 [some (aA v0), some (aI v1), some (aI v2), some (aI v3), some (aI v4), some (aI v5), some (aI v6), some (aA x2), some (aA x4), some (aI x10), none] [aI x11] x8 from ?_)
            refine go_istore (loc2 := [some (aA v0), some (aI v1), some (aI v2), some (aI v3), some (aI v4), some (aI v5), some (aI v6), some (aA x2), some (aA x4), some (aI x10), some (aI x11)]) dX11_spans_94 (by decide) rfl ?_
            refine go_iload dX11_spans_96 rfl ?_
            refine go_if_eq (tgt := 109) dX11_spans_98 (by decide) (fun c15 => ?_) (fun c15 => ?_)
            · replace H := (gm_ite H).1 c15
              refine go_iload dX11_spans_109 rfl ?_
              obtain ⟨x12, ex12, H⟩ := bind_some H
              refine go_callS (vs := [aI x11]) (stk := []) (o1 := (some (aI x12), x8)) mk_X5_firstBit ss_X11_spans_177 dX11_spans_111 rfl rfl (Nat.le_of_ble_eq_true rfl) (Nat.le_of_ble_eq_true rfl) (ok_X5_firstBit ex12) (show Go M_X11_spans (some (aI r.1), r.2) 114 [some (aA v0), some (aI v1), some (aI v2), some (aI v3), some (aI v4), some (aI v5), some (aI v6), some (aA x2), some (aA x4), some (aI x10), some (aI x11)] [aI x12] x8 from ?_)
              refine go_mask [false, false, false, false, false, false, false, false, false, false, false] (loc' := [none, none, none, none, none, none, none, none, none, none, none]) rfl ?_
              exact okj_X11_spans_114 x12 x8  H
            · replace H := (gm_ite H).2 c15
              refine go_iload dX11_spans_101 rfl ?_
              obtain ⟨x13, ex13, H⟩ := bind_some H
              refine go_callS (vs := [aI x11]) (stk := []) (o1 := (some (aI x13), x8)) mk_X5_lastBit ss_X11_spans_182 dX11_spans_103 rfl rfl (Nat.le_of_ble_eq_true rfl) (Nat.le_of_ble_eq_true rfl) (ok_X5_lastBit ex13) (show Go M_X11_spans (some (aI r.1), r.2) 106 [some (aA v0), some (aI v1), some (aI v2), some (aI v3), some (aI v4), some (aI v5), some (aI v6), some (aA x2), some (aA x4), some (aI x10), some (aI x11)] [aI x13] x8 from ?_)
              refine go_goto (tgt := 114) dX11_spans_106 (by decide) ?_
              refine go_mask [false, false, false, false, false, false, false, false, false, false, false] (loc' := [none, none, none, none, none, none, none, none, none, none, none]) rfl ?_
              exact okj_X11_spans_114 x13 x8  H
          · replace H := (gm_ite H).2 c13
            refine go_iload dX11_spans_81 rfl ?_
            obtain ⟨x14, ex14, H⟩ := bind_some H
            refine go_callS (vs := [aI x10]) (stk := []) (o1 := (some (aI x14), x8)) mk_X5_runs ss_X11_spans_190 dX11_spans_83 rfl rfl (Nat.le_of_ble_eq_true rfl) (Nat.le_of_ble_eq_true rfl) (ok_X5_runs ex14) (show Go M_X11_spans (some (aI r.1), r.2) 86 [some (aA v0), some (aI v1), some (aI v2), some (aI v3), some (aI v4), some (aI v5), some (aI v6), some (aA x2), some (aA x4), some (aI x10), none] [aI x14] x8 from ?_)
            obtain rfl := Option.some.inj H
            exact go_ireturn dX11_spans_86 (tyI_int rfl)
        · replace H := (gm_ite H).2 c10
          refine go_iconst (v := (-1 : Int32)) dX11_spans_49 rfl ?_
          obtain rfl := Option.some.inj H
          exact go_ireturn dX11_spans_50 (tyI_int rfl)
/-! X12_spans -/
def j_X12_spans_182 (v5 : Int32) (v6 : Int32) (v7 : Int32) (v8 : Int32) (v9 : Int32)  (h : Hp) (k : Int32 → Int32 → Option (Int32 × Hp)) : Option (Int32 × Hp) :=
  k v8 (v9 + (1 : Int32))
set_option maxRecDepth 20000 in
theorem okj_X12_spans_182 {r : (Int32 × Hp)} (v5 : Int32) (v6 : Int32) (v7 : Int32) (v8 : Int32) (v9 : Int32)  (h : Hp) (k : Int32 → Int32 → Option (Int32 × Hp)) (Hk : ∀ (v8q : Int32) (v9q : Int32), k v8q v9q = some r → Go M_X12_spans (some (aI r.1), r.2) 64 [none, none, none, none, none, some (aI v5), some (aI v6), some (aI v7), some (aI v8q), some (aI v9q), none] [] h) (H : j_X12_spans_182 v5 v6 v7 v8 v9 h k = some r) : Go M_X12_spans (some (aI r.1), r.2) 182 [none, none, none, none, none, some (aI v5), some (aI v6), some (aI v7), some (aI v8), some (aI v9), none] [] h := by
  unfold j_X12_spans_182 at H
  refine go_iinc (v := (v9 + (1 : Int32))) (loc2 := [none, none, none, none, none, some (aI v5), some (aI v6), some (aI v7), some (aI v8), some (aI (v9 + (1 : Int32))), none]) dX12_spans_182 rfl rfl (by decide) rfl ?_
  refine go_goto (tgt := 64) dX12_spans_185 (by decide) ?_
  exact Hk v8 (v9 + (1 : Int32)) H
def j_X12_spans_155 (v5 : Int32) (v6 : Int32) (v7 : Int32) (v8 : Int32) (v9 : Int32) (s0 : Int32) (h : Hp) (k : Int32 → Int32 → Option (Int32 × Hp)) : Option (Int32 × Hp) :=
  (m_X12_has v7 v9 h).bind fun x1 => if x1 = 0 then j_X12_spans_182 v5 v6 v7 v8 v9 h k else if ¬ v8 = v5 then j_X12_spans_182 v5 v6 v7 v8 v9 h k else if s0 = 0 then j_X12_spans_182 v5 v6 v7 v8 v9 h k else some (v9, h)
set_option maxRecDepth 20000 in
theorem okj_X12_spans_155 {r : (Int32 × Hp)} (v5 : Int32) (v6 : Int32) (v7 : Int32) (v8 : Int32) (v9 : Int32) (s0 : Int32) (h : Hp) (k : Int32 → Int32 → Option (Int32 × Hp)) (Hk : ∀ (v8q : Int32) (v9q : Int32), k v8q v9q = some r → Go M_X12_spans (some (aI r.1), r.2) 64 [none, none, none, none, none, some (aI v5), some (aI v6), some (aI v7), some (aI v8q), some (aI v9q), none] [] h) (H : j_X12_spans_155 v5 v6 v7 v8 v9 s0 h k = some r) : Go M_X12_spans (some (aI r.1), r.2) 155 [none, none, none, none, none, some (aI v5), some (aI v6), some (aI v7), some (aI v8), some (aI v9), none] [aI s0] h := by
  unfold j_X12_spans_155 at H
  refine go_istore (loc2 := [none, none, none, none, none, some (aI v5), some (aI v6), some (aI v7), some (aI v8), some (aI v9), some (aI s0)]) dX12_spans_155 (by decide) rfl ?_
  refine go_iload dX12_spans_157 rfl ?_
  refine go_iload dX12_spans_159 rfl ?_
  obtain ⟨x1, ex1, H⟩ := bind_some H
  refine go_callS (vs := [aI v7, aI v9]) (stk := []) (o1 := (some (aI x1), h)) mk_X12_has ss_X12_spans_64 dX12_spans_161 rfl rfl (Nat.le_of_ble_eq_true rfl) (Nat.le_of_ble_eq_true rfl) (ok_X12_has ex1) (show Go M_X12_spans (some (aI r.1), r.2) 164 [none, none, none, none, none, some (aI v5), some (aI v6), some (aI v7), some (aI v8), some (aI v9), some (aI s0)] [aI x1] h from ?_)
  refine go_if_eq (tgt := 182) dX12_spans_164 (by decide) (fun c2 => ?_) (fun c2 => ?_)
  · replace H := (gm_ite H).1 c2
    refine go_mask [false, false, false, false, false, true, true, true, true, true, false] (loc' := [none, none, none, none, none, some (aI v5), some (aI v6), some (aI v7), some (aI v8), some (aI v9), none]) rfl ?_
    exact okj_X12_spans_182 v5 v6 v7 v8 v9 h k Hk H
  · replace H := (gm_ite H).2 c2
    refine go_iload dX12_spans_167 rfl ?_
    refine go_iload dX12_spans_169 rfl ?_
    refine go_icmp_ne (tgt := 182) dX12_spans_171 (by decide) (fun c3 => ?_) (fun c3 => ?_)
    · replace H := (gm_ite H).1 c3
      refine go_mask [false, false, false, false, false, true, true, true, true, true, false] (loc' := [none, none, none, none, none, some (aI v5), some (aI v6), some (aI v7), some (aI v8), some (aI v9), none]) rfl ?_
      exact okj_X12_spans_182 v5 v6 v7 v8 v9 h k Hk H
    · replace H := (gm_ite H).2 c3
      refine go_iload dX12_spans_174 rfl ?_
      refine go_if_eq (tgt := 182) dX12_spans_176 (by decide) (fun c4 => ?_) (fun c4 => ?_)
      · replace H := (gm_ite H).1 c4
        refine go_mask [false, false, false, false, false, true, true, true, true, true, false] (loc' := [none, none, none, none, none, some (aI v5), some (aI v6), some (aI v7), some (aI v8), some (aI v9), none]) rfl ?_
        exact okj_X12_spans_182 v5 v6 v7 v8 v9 h k Hk H
      · replace H := (gm_ite H).2 c4
        refine go_iload dX12_spans_179 rfl ?_
        obtain rfl := Option.some.inj H
        exact go_ireturn dX12_spans_181 (tyI_int rfl)
def j_X12_spans_105 (v5 : Int32) (v6 : Int32) (v7 : Int32) (v9 : Int32) (s0 : Int32) (s1 : Int32) (h : Hp) (k : Int32 → Int32 → Option (Int32 × Hp)) : Option (Int32 × Hp) :=
  if v6 = 0 then (if v9 = 0 then j_X12_spans_155 v5 v6 v7 (s0 + s1) v9 (1 : Int32) h k else (m_X12_has v7 (v9 - (1 : Int32)) h).bind fun x1 => j_X12_spans_155 v5 v6 v7 (s0 + s1) v9 (if ¬ x1 = 0 then (0 : Int32) else (1 : Int32)) h k) else (m_X12_has v7 (v9 + (1 : Int32)) h).bind fun x2 => j_X12_spans_155 v5 v6 v7 (s0 + s1) v9 (if ¬ x2 = 0 then (0 : Int32) else (1 : Int32)) h k
set_option maxRecDepth 20000 in
theorem okj_X12_spans_105 {r : (Int32 × Hp)} (v5 : Int32) (v6 : Int32) (v7 : Int32) (v9 : Int32) (s0 : Int32) (s1 : Int32) (h : Hp) (k : Int32 → Int32 → Option (Int32 × Hp)) (Hk : ∀ (v8q : Int32) (v9q : Int32), k v8q v9q = some r → Go M_X12_spans (some (aI r.1), r.2) 64 [none, none, none, none, none, some (aI v5), some (aI v6), some (aI v7), some (aI v8q), some (aI v9q), none] [] h) (H : j_X12_spans_105 v5 v6 v7 v9 s0 s1 h k = some r) : Go M_X12_spans (some (aI r.1), r.2) 105 [none, none, none, none, none, some (aI v5), some (aI v6), some (aI v7), none, some (aI v9), none] [aI s1, aI s0] h := by
  unfold j_X12_spans_105 at H
  refine go_iadd dX12_spans_105 ?_
  refine go_istore (loc2 := [none, none, none, none, none, some (aI v5), some (aI v6), some (aI v7), some (aI (s0 + s1)), some (aI v9), none]) dX12_spans_106 (by decide) rfl ?_
  refine go_iload dX12_spans_108 rfl ?_
  refine go_if_eq (tgt := 133) dX12_spans_110 (by decide) (fun c1 => ?_) (fun c1 => ?_)
  · replace H := (gm_ite H).1 c1
    refine go_iload dX12_spans_133 rfl ?_
    refine go_if_eq (tgt := 150) dX12_spans_135 (by decide) (fun c2 => ?_) (fun c2 => ?_)
    · replace H := (gm_ite H).1 c2
      refine go_iconst (v := (1 : Int32)) dX12_spans_150 rfl ?_
      refine go_goto (tgt := 155) dX12_spans_151 (by decide) ?_
      exact okj_X12_spans_155 v5 v6 v7 (s0 + s1) v9 (1 : Int32) h k Hk H
    · replace H := (gm_ite H).2 c2
      refine go_iload dX12_spans_138 rfl ?_
      refine go_iload dX12_spans_140 rfl ?_
      refine go_iconst (v := (1 : Int32)) dX12_spans_142 rfl ?_
      refine go_isub dX12_spans_143 ?_
      obtain ⟨x1, ex1, H⟩ := bind_some H
      refine go_callS (vs := [aI v7, aI (v9 - (1 : Int32))]) (stk := []) (o1 := (some (aI x1), h)) mk_X12_has ss_X12_spans_64 dX12_spans_144 rfl rfl (Nat.le_of_ble_eq_true rfl) (Nat.le_of_ble_eq_true rfl) (ok_X12_has ex1) (show Go M_X12_spans (some (aI r.1), r.2) 147 [none, none, none, none, none, some (aI v5), some (aI v6), some (aI v7), some (aI (s0 + s1)), some (aI v9), none] [aI x1] h from ?_)
      refine go_if_ne (tgt := 154) dX12_spans_147 (by decide) (fun c4 => ?_) (fun c4 => ?_)
      · rw [if_pos c4] at H
        refine go_iconst (v := (0 : Int32)) dX12_spans_154 rfl ?_
        exact okj_X12_spans_155 v5 v6 v7 (s0 + s1) v9 (0 : Int32) h k Hk H
      · rw [if_neg c4] at H
        refine go_iconst (v := (1 : Int32)) dX12_spans_150 rfl ?_
        refine go_goto (tgt := 155) dX12_spans_151 (by decide) ?_
        exact okj_X12_spans_155 v5 v6 v7 (s0 + s1) v9 (1 : Int32) h k Hk H
  · replace H := (gm_ite H).2 c1
    refine go_iload dX12_spans_113 rfl ?_
    refine go_iload dX12_spans_115 rfl ?_
    refine go_iconst (v := (1 : Int32)) dX12_spans_117 rfl ?_
    refine go_iadd dX12_spans_118 ?_
    obtain ⟨x2, ex2, H⟩ := bind_some H
    refine go_callS (vs := [aI v7, aI (v9 + (1 : Int32))]) (stk := []) (o1 := (some (aI x2), h)) mk_X12_has ss_X12_spans_64 dX12_spans_119 rfl rfl (Nat.le_of_ble_eq_true rfl) (Nat.le_of_ble_eq_true rfl) (ok_X12_has ex2) (show Go M_X12_spans (some (aI r.1), r.2) 122 [none, none, none, none, none, some (aI v5), some (aI v6), some (aI v7), some (aI (s0 + s1)), some (aI v9), none] [aI x2] h from ?_)
    refine go_if_ne (tgt := 129) dX12_spans_122 (by decide) (fun c6 => ?_) (fun c6 => ?_)
    · rw [if_pos c6] at H
      refine go_iconst (v := (0 : Int32)) dX12_spans_129 rfl ?_
      refine go_goto (tgt := 155) dX12_spans_130 (by decide) ?_
      exact okj_X12_spans_155 v5 v6 v7 (s0 + s1) v9 (0 : Int32) h k Hk H
    · rw [if_neg c6] at H
      refine go_iconst (v := (1 : Int32)) dX12_spans_125 rfl ?_
      refine go_goto (tgt := 155) dX12_spans_126 (by decide) ?_
      exact okj_X12_spans_155 v5 v6 v7 (s0 + s1) v9 (1 : Int32) h k Hk H
def b_X12_spans_64 (v5 : Int32) (v6 : Int32) (v7 : Int32) (h : Hp) (k : Int32 → Int32 → Option (Int32 × Hp)) (v8 : Int32) (v9 : Int32) : Option (Int32 × Hp) :=
  if (10 : Int32) ≤ v9 then (some ((-1 : Int32), h)) else (m_X12_has v7 v9 h).bind fun x1 => if x1 = 0 then j_X12_spans_105 v5 v6 v7 v9 v8 (0 : Int32) h k else if v9 = 0 then j_X12_spans_105 v5 v6 v7 v9 v8 (1 : Int32) h k else (m_X12_has v7 (v9 - (1 : Int32)) h).bind fun x2 => j_X12_spans_105 v5 v6 v7 v9 v8 (if ¬ x2 = 0 then (0 : Int32) else (1 : Int32)) h k
set_option maxRecDepth 20000 in
theorem okb_X12_spans_64 {r : (Int32 × Hp)} (v5 : Int32) (v6 : Int32) (v7 : Int32) (h : Hp) (k : Int32 → Int32 → Option (Int32 × Hp)) (v8 : Int32) (v9 : Int32) (Hk : ∀ (v8q : Int32) (v9q : Int32), k v8q v9q = some r → Go M_X12_spans (some (aI r.1), r.2) 64 [none, none, none, none, none, some (aI v5), some (aI v6), some (aI v7), some (aI v8q), some (aI v9q), none] [] h) (H : b_X12_spans_64 v5 v6 v7 h k v8 v9 = some r) : Go M_X12_spans (some (aI r.1), r.2) 64 [none, none, none, none, none, some (aI v5), some (aI v6), some (aI v7), some (aI v8), some (aI v9), none] [] h := by
  unfold b_X12_spans_64 at H
  refine go_iload dX12_spans_64 rfl ?_
  refine go_bipush (v := (10 : Int32)) dX12_spans_66 rfl ?_
  refine go_icmp_ge (tgt := 188) dX12_spans_68 (by decide) (fun c1 => ?_) (fun c1 => ?_)
  · replace H := (gm_ite H).1 c1
    refine go_iconst (v := (-1 : Int32)) dX12_spans_188 rfl ?_
    obtain rfl := Option.some.inj H
    exact go_ireturn dX12_spans_189 (tyI_int rfl)
  · replace H := (gm_ite H).2 c1
    refine go_iload dX12_spans_71 rfl ?_
    refine go_iload dX12_spans_73 rfl ?_
    refine go_iload dX12_spans_75 rfl ?_
    obtain ⟨x1, ex1, H⟩ := bind_some H
    refine go_callS (vs := [aI v7, aI v9]) (stk := [aI v8]) (o1 := (some (aI x1), h)) mk_X12_has ss_X12_spans_64 dX12_spans_77 rfl rfl (Nat.le_of_ble_eq_true rfl) (Nat.le_of_ble_eq_true rfl) (ok_X12_has ex1) (show Go M_X12_spans (some (aI r.1), r.2) 80 [none, none, none, none, none, some (aI v5), some (aI v6), some (aI v7), some (aI v8), some (aI v9), none] [aI x1, aI v8] h from ?_)
    refine go_if_eq (tgt := 104) dX12_spans_80 (by decide) (fun c3 => ?_) (fun c3 => ?_)
    · replace H := (gm_ite H).1 c3
      refine go_iconst (v := (0 : Int32)) dX12_spans_104 rfl ?_
      refine go_mask [false, false, false, false, false, true, true, true, false, true, false] (loc' := [none, none, none, none, none, some (aI v5), some (aI v6), some (aI v7), none, some (aI v9), none]) rfl ?_
      exact okj_X12_spans_105 v5 v6 v7 v9 v8 (0 : Int32) h k Hk H
    · replace H := (gm_ite H).2 c3
      refine go_iload dX12_spans_83 rfl ?_
      refine go_if_eq (tgt := 100) dX12_spans_85 (by decide) (fun c4 => ?_) (fun c4 => ?_)
      · replace H := (gm_ite H).1 c4
        refine go_iconst (v := (1 : Int32)) dX12_spans_100 rfl ?_
        refine go_goto (tgt := 105) dX12_spans_101 (by decide) ?_
        refine go_mask [false, false, false, false, false, true, true, true, false, true, false] (loc' := [none, none, none, none, none, some (aI v5), some (aI v6), some (aI v7), none, some (aI v9), none]) rfl ?_
        exact okj_X12_spans_105 v5 v6 v7 v9 v8 (1 : Int32) h k Hk H
      · replace H := (gm_ite H).2 c4
        refine go_iload dX12_spans_88 rfl ?_
        refine go_iload dX12_spans_90 rfl ?_
        refine go_iconst (v := (1 : Int32)) dX12_spans_92 rfl ?_
        refine go_isub dX12_spans_93 ?_
        obtain ⟨x2, ex2, H⟩ := bind_some H
        refine go_callS (vs := [aI v7, aI (v9 - (1 : Int32))]) (stk := [aI v8]) (o1 := (some (aI x2), h)) mk_X12_has ss_X12_spans_64 dX12_spans_94 rfl rfl (Nat.le_of_ble_eq_true rfl) (Nat.le_of_ble_eq_true rfl) (ok_X12_has ex2) (show Go M_X12_spans (some (aI r.1), r.2) 97 [none, none, none, none, none, some (aI v5), some (aI v6), some (aI v7), some (aI v8), some (aI v9), none] [aI x2, aI v8] h from ?_)
        refine go_if_ne (tgt := 104) dX12_spans_97 (by decide) (fun c6 => ?_) (fun c6 => ?_)
        · rw [if_pos c6] at H
          refine go_iconst (v := (0 : Int32)) dX12_spans_104 rfl ?_
          refine go_mask [false, false, false, false, false, true, true, true, false, true, false] (loc' := [none, none, none, none, none, some (aI v5), some (aI v6), some (aI v7), none, some (aI v9), none]) rfl ?_
          exact okj_X12_spans_105 v5 v6 v7 v9 v8 (0 : Int32) h k Hk H
        · rw [if_neg c6] at H
          refine go_iconst (v := (1 : Int32)) dX12_spans_100 rfl ?_
          refine go_goto (tgt := 105) dX12_spans_101 (by decide) ?_
          refine go_mask [false, false, false, false, false, true, true, true, false, true, false] (loc' := [none, none, none, none, none, some (aI v5), some (aI v6), some (aI v7), none, some (aI v9), none]) rfl ?_
          exact okj_X12_spans_105 v5 v6 v7 v9 v8 (1 : Int32) h k Hk H
def l_X12_spans_64 (v5 : Int32) (v6 : Int32) (v7 : Int32) (h : Hp) (v8 : Int32) (v9 : Int32) : Option (Int32 × Hp) := loopK FUEL (fun (k : Int32 × Int32 → Option (Int32 × Hp)) (s : Int32 × Int32) => b_X12_spans_64 v5 v6 v7 h (fun v8q v9q => k (v8q, v9q)) s.1 s.2) (v8, v9)
theorem okl_X12_spans_64 {r : (Int32 × Hp)} (v5 : Int32) (v6 : Int32) (v7 : Int32) (h : Hp) (v8 : Int32) (v9 : Int32) (H : l_X12_spans_64 v5 v6 v7 h v8 v9 = some r) : Go M_X12_spans (some (aI r.1), r.2) 64 [none, none, none, none, none, some (aI v5), some (aI v6), some (aI v7), some (aI v8), some (aI v9), none] [] h := by
  unfold l_X12_spans_64 at H
  exact go_loop (σ := Int32 × Int32) (body := (fun (k : Int32 × Int32 → Option (Int32 × Hp)) (s : Int32 × Int32) => b_X12_spans_64 v5 v6 v7 h (fun v8q v9q => k (v8q, v9q)) s.1 s.2)) (fun s => [none, none, none, none, none, some (aI v5), some (aI v6), some (aI v7), some (aI s.1), some (aI s.2), none]) (fun s => h) (fun k s Hk H => okb_X12_spans_64 v5 v6 v7 h (fun v8q v9q => k (v8q, v9q)) s.1 s.2  (fun v8q v9q H => Hk (v8q, v9q) H) H) FUEL (v8, v9) H
def m_X12_spans (v0 : Nat) (v1 : Int32) (v2 : Int32) (v3 : Int32) (v4 : Int32) (v5 : Int32) (v6 : Int32) (h : Hp) : Option (Int32 × Hp) :=
  (pfI h v0 12 0 (0 : Int32)).bind fun hh1 => (rc hh1 v0 12 (m_X12_layHeld v0 v1 v2 hh1)).bind fun x1 => if x1.1 = 0 then (some ((-1 : Int32), x1.2)) else (rc x1.2 v0 12 (m_X12_isAsking v0 v3 x1.2)).bind fun x2 => if x2 = 0 then (some ((-1 : Int32), x1.2)) else (rc x1.2 v0 12 (m_X12_isDoc v0 v4 x1.2)).bind fun x3 => if ¬ x3 = 0 then ((gfR x1.2 v0 12 29).bind fun x4 => (alI x1.2 x4 (((4 : Int32) * v3) + v4)).bind fun x5 => if ¬ v5 = (-1 : Int32) then (l_X12_spans_64 v5 v6 x5 x1.2 (-1 : Int32) (0 : Int32)) else (m_X12_rowsIn x5 x1.2).bind fun x6 => some (x6, x1.2)) else some ((-1 : Int32), x1.2)
set_option maxRecDepth 20000 in
theorem ok_X12_spans {r : (Int32 × Hp)} {v0 : Nat} {v1 : Int32} {v2 : Int32} {v3 : Int32} {v4 : Int32} {v5 : Int32} {v6 : Int32} {h : Hp} (H : m_X12_spans v0 v1 v2 v3 v4 v5 v6 h = some r) : Ev M_X12_spans [aA v0, aI v1, aI v2, aI v3, aI v4, aI v5, aI v6] h (some (aI r.1), r.2) := by
  show Go M_X12_spans (some (aI r.1), r.2) 0 [some (aA v0), some (aI v1), some (aI v2), some (aI v3), some (aI v4), some (aI v5), some (aI v6), none, none, none, none] [] h
  unfold m_X12_spans at H
  refine go_aloadn dX12_spans_0 rfl ?_
  refine go_iconst (v := (0 : Int32)) dX12_spans_1 rfl ?_
  refine gm_putI fd_X12_60 (Or.inl rfl) dX12_spans_2 H (fun hh1 H => ?_)
  refine go_aloadn dX12_spans_5 rfl ?_
  refine go_iloadn dX12_spans_6 rfl ?_
  refine go_iloadn dX12_spans_7 rfl ?_
  obtain ⟨c1, x1, ex1, H⟩ := gm_rc H
  refine go_callV (vs := [aI v1, aI v2]) (stk := []) (o1 := (some (aI x1.1), x1.2)) mk_X12_layHeld sv_X12_spans_395 cl_X12 rfl dX12_spans_8 c1 rfl rfl (Nat.le_of_ble_eq_true rfl) (Nat.le_of_ble_eq_true rfl) (ok_X12_layHeld ex1) (show Go M_X12_spans (some (aI r.1), r.2) 11 [some (aA v0), some (aI v1), some (aI v2), some (aI v3), some (aI v4), some (aI v5), some (aI v6), none, none, none, none] [aI x1.1] x1.2 from ?_)
  refine go_if_eq (tgt := 31) dX12_spans_11 (by decide) (fun c2 => ?_) (fun c2 => ?_)
  · replace H := (gm_ite H).1 c2
    refine go_iconst (v := (-1 : Int32)) dX12_spans_31 rfl ?_
    obtain rfl := Option.some.inj H
    exact go_ireturn dX12_spans_32 (tyI_int rfl)
  · replace H := (gm_ite H).2 c2
    refine go_aloadn dX12_spans_14 rfl ?_
    refine go_iloadn dX12_spans_15 rfl ?_
    obtain ⟨c3, x2, ex2, H⟩ := gm_rc H
    refine go_callV (vs := [aI v3]) (stk := []) (o1 := (some (aI x2), x1.2)) mk_X12_isAsking sv_X12_spans_398 cl_X12 rfl dX12_spans_16 c3 rfl rfl (Nat.le_of_ble_eq_true rfl) (Nat.le_of_ble_eq_true rfl) (ok_X12_isAsking ex2) (show Go M_X12_spans (some (aI r.1), r.2) 19 [some (aA v0), some (aI v1), some (aI v2), some (aI v3), some (aI v4), some (aI v5), some (aI v6), none, none, none, none] [aI x2] x1.2 from ?_)
    refine go_if_eq (tgt := 31) dX12_spans_19 (by decide) (fun c4 => ?_) (fun c4 => ?_)
    · replace H := (gm_ite H).1 c4
      refine go_iconst (v := (-1 : Int32)) dX12_spans_31 rfl ?_
      obtain rfl := Option.some.inj H
      exact go_ireturn dX12_spans_32 (tyI_int rfl)
    · replace H := (gm_ite H).2 c4
      refine go_aloadn dX12_spans_22 rfl ?_
      refine go_iload dX12_spans_23 rfl ?_
      obtain ⟨c5, x3, ex3, H⟩ := gm_rc H
      refine go_callV (vs := [aI v4]) (stk := []) (o1 := (some (aI x3), x1.2)) mk_X12_isDoc sv_X12_spans_256 cl_X12 rfl dX12_spans_25 c5 rfl rfl (Nat.le_of_ble_eq_true rfl) (Nat.le_of_ble_eq_true rfl) (ok_X12_isDoc ex3) (show Go M_X12_spans (some (aI r.1), r.2) 28 [some (aA v0), some (aI v1), some (aI v2), some (aI v3), some (aI v4), some (aI v5), some (aI v6), none, none, none, none] [aI x3] x1.2 from ?_)
      refine go_if_ne (tgt := 33) dX12_spans_28 (by decide) (fun c6 => ?_) (fun c6 => ?_)
      · replace H := (gm_ite H).1 c6
        refine go_aloadn dX12_spans_33 rfl ?_
        refine gm_getR fd_X12_50 dX12_spans_34 H (fun x4 H => ?_)
        refine go_iconst (v := (4 : Int32)) dX12_spans_37 rfl ?_
        refine go_iloadn dX12_spans_38 rfl ?_
        refine go_imul dX12_spans_39 ?_
        refine go_iload dX12_spans_40 rfl ?_
        refine go_iadd dX12_spans_42 ?_
        refine gm_iald dX12_spans_43 H (fun x5 H => ?_)
        refine go_istore (loc2 := [some (aA v0), some (aI v1), some (aI v2), some (aI v3), some (aI v4), some (aI v5), some (aI v6), some (aI x5), none, none, none]) dX12_spans_44 (by decide) rfl ?_
        refine go_iload dX12_spans_46 rfl ?_
        refine go_iconst (v := (-1 : Int32)) dX12_spans_48 rfl ?_
        refine go_icmp_ne (tgt := 58) dX12_spans_49 (by decide) (fun c7 => ?_) (fun c7 => ?_)
        · replace H := (gm_ite H).1 c7
          refine go_iconst (v := (-1 : Int32)) dX12_spans_58 rfl ?_
          refine go_istore (loc2 := [some (aA v0), some (aI v1), some (aI v2), some (aI v3), some (aI v4), some (aI v5), some (aI v6), some (aI x5), some (aI (-1 : Int32)), none, none]) dX12_spans_59 (by decide) rfl ?_
          refine go_iconst (v := (0 : Int32)) dX12_spans_61 rfl ?_
          refine go_istore (loc2 := [some (aA v0), some (aI v1), some (aI v2), some (aI v3), some (aI v4), some (aI v5), some (aI v6), some (aI x5), some (aI (-1 : Int32)), some (aI (0 : Int32)), none]) dX12_spans_62 (by decide) rfl ?_
          refine go_mask [false, false, false, false, false, true, true, true, true, true, false] (loc' := [none, none, none, none, none, some (aI v5), some (aI v6), some (aI x5), some (aI (-1 : Int32)), some (aI (0 : Int32)), none]) rfl ?_
          exact okl_X12_spans_64 v5 v6 x5 x1.2 (-1 : Int32) (0 : Int32) H
        · replace H := (gm_ite H).2 c7
          refine go_iload dX12_spans_52 rfl ?_
          obtain ⟨x6, ex6, H⟩ := bind_some H
          refine go_callS (vs := [aI x5]) (stk := []) (o1 := (some (aI x6), x1.2)) mk_X12_rowsIn ss_X12_spans_281 dX12_spans_54 rfl rfl (Nat.le_of_ble_eq_true rfl) (Nat.le_of_ble_eq_true rfl) (ok_X12_rowsIn ex6) (show Go M_X12_spans (some (aI r.1), r.2) 57 [some (aA v0), some (aI v1), some (aI v2), some (aI v3), some (aI v4), some (aI v5), some (aI v6), some (aI x5), none, none, none] [aI x6] x1.2 from ?_)
          obtain rfl := Option.some.inj H
          exact go_ireturn dX12_spans_57 (tyI_int rfl)
      · replace H := (gm_ite H).2 c6
        refine go_iconst (v := (-1 : Int32)) dX12_spans_31 rfl ?_
        obtain rfl := Option.some.inj H
        exact go_ireturn dX12_spans_32 (tyI_int rfl)
/-! X11_times -/
def j_X11_times_82  (s0 : Int32) (h : Hp) : Option Int32 :=
  some s0
set_option maxRecDepth 20000 in
theorem okj_X11_times_82 {r : Int32}  (s0 : Int32) (h : Hp) (H : j_X11_times_82 s0 h = some r) : Go M_X11_times (some (aI r), h) 82 [none, none, none, none, none, none, none, none] [aI s0] h := by
  unfold j_X11_times_82 at H
  obtain rfl := Option.some.inj H
  exact go_ireturn dX11_times_82 (tyI_int rfl)
def m_X11_times (v0 : Nat) (v1 : Int32) (v2 : Int32) (v3 : Int32) (v4 : Int32) (v5 : Int32) (h : Hp) : Option Int32 :=
  (gfR h v0 11 0).bind fun x1 => (rc h x1 9 (m_X9_archiveAt x1 v1 h)).bind fun x2 => (gfR h v0 11 0).bind fun x3 => (rc h x3 9 (m_X9_questionsAt x3 v2 h)).bind fun x4 => (nz x2).bind fun _ => if x2 = 0 then (some (-1 : Int32)) else (nz x4).bind fun _ => if x4 = 0 then (some (-1 : Int32)) else (rc h x4 6 (m_X6_has x4 v3 h)).bind fun x5 => if x5 = 0 then (some (-1 : Int32)) else (rc h x2 1 (m_X0_hasVersion x2 v4 v5 h)).bind fun x6 => if ¬ x6 = 0 then ((rc h x4 6 (m_X6_kindOf x4 v3 h)).bind fun x7 => if ¬ x7 = 0 then j_X11_times_82 (-1 : Int32) h else (gfR h v0 11 4).bind fun x8 => (rc h x8 8 (m_X8_beginnings x8 x2 x4 v3 v4 v5 h)).bind fun x9 => j_X11_times_82 x9 h) else some (-1 : Int32)
set_option maxRecDepth 20000 in
theorem ok_X11_times {r : Int32} {v0 : Nat} {v1 : Int32} {v2 : Int32} {v3 : Int32} {v4 : Int32} {v5 : Int32} {h : Hp} (H : m_X11_times v0 v1 v2 v3 v4 v5 h = some r) : Ev M_X11_times [aA v0, aI v1, aI v2, aI v3, aI v4, aI v5] h (some (aI r), h) := by
  show Go M_X11_times (some (aI r), h) 0 [some (aA v0), some (aI v1), some (aI v2), some (aI v3), some (aI v4), some (aI v5), none, none] [] h
  unfold m_X11_times at H
  refine go_aloadn dX11_times_0 rfl ?_
  refine gm_getR fd_X11_10 dX11_times_1 H (fun x1 H => ?_)
  refine go_iloadn dX11_times_4 rfl ?_
  obtain ⟨c1, x2, ex2, H⟩ := gm_rc H
  refine go_callV (vs := [aI v1]) (stk := []) (o1 := (some (aA x2), h)) mk_X9_archiveAt sv_X11_times_86 cl_X9 rfl dX11_times_5 c1 rfl rfl (Nat.le_of_ble_eq_true rfl) (Nat.le_of_ble_eq_true rfl) (ok_X9_archiveAt ex2) (show Go M_X11_times (some (aI r), h) 8 [some (aA v0), some (aI v1), some (aI v2), some (aI v3), some (aI v4), some (aI v5), none, none] [aA x2] h from ?_)
  refine go_astore (loc2 := [some (aA v0), some (aI v1), some (aI v2), some (aI v3), some (aI v4), some (aI v5), some (aA x2), none]) dX11_times_8 (by decide) rfl ?_
  refine go_aloadn dX11_times_10 rfl ?_
  refine gm_getR fd_X11_10 dX11_times_11 H (fun x3 H => ?_)
  refine go_iloadn dX11_times_14 rfl ?_
  obtain ⟨c2, x4, ex4, H⟩ := gm_rc H
  refine go_callV (vs := [aI v2]) (stk := []) (o1 := (some (aA x4), h)) mk_X9_questionsAt sv_X11_times_231 cl_X9 rfl dX11_times_15 c2 rfl rfl (Nat.le_of_ble_eq_true rfl) (Nat.le_of_ble_eq_true rfl) (ok_X9_questionsAt ex4) (show Go M_X11_times (some (aI r), h) 18 [some (aA v0), some (aI v1), some (aI v2), some (aI v3), some (aI v4), some (aI v5), some (aA x2), none] [aA x4] h from ?_)
  refine go_astore (loc2 := [some (aA v0), some (aI v1), some (aI v2), some (aI v3), some (aI v4), some (aI v5), some (aA x2), some (aA x4)]) dX11_times_18 (by decide) rfl ?_
  refine go_aload dX11_times_20 rfl ?_
  obtain ⟨c4, H⟩ := gm_nz H
  refine go_ifnull (tgt := 51) dX11_times_22 (by decide) c4 (fun c3 => ?_) (fun c3 => ?_)
  · replace H := (gm_ite H).1 c3
    refine go_iconst (v := (-1 : Int32)) dX11_times_51 rfl ?_
    obtain rfl := Option.some.inj H
    exact go_ireturn dX11_times_52 (tyI_int rfl)
  · replace H := (gm_ite H).2 c3
    refine go_aload dX11_times_25 rfl ?_
    obtain ⟨c6, H⟩ := gm_nz H
    refine go_ifnull (tgt := 51) dX11_times_27 (by decide) c6 (fun c5 => ?_) (fun c5 => ?_)
    · replace H := (gm_ite H).1 c5
      refine go_iconst (v := (-1 : Int32)) dX11_times_51 rfl ?_
      obtain rfl := Option.some.inj H
      exact go_ireturn dX11_times_52 (tyI_int rfl)
    · replace H := (gm_ite H).2 c5
      refine go_aload dX11_times_30 rfl ?_
      refine go_iloadn dX11_times_32 rfl ?_
      obtain ⟨c7, x5, ex5, H⟩ := gm_rc H
      refine go_callV (vs := [aI v3]) (stk := []) (o1 := (some (aI x5), h)) mk_X6_has sv_X11_times_239 cl_X6 rfl dX11_times_33 c7 rfl rfl (Nat.le_of_ble_eq_true rfl) (Nat.le_of_ble_eq_true rfl) (ok_X6_has ex5) (show Go M_X11_times (some (aI r), h) 36 [some (aA v0), some (aI v1), some (aI v2), some (aI v3), some (aI v4), some (aI v5), some (aA x2), some (aA x4)] [aI x5] h from ?_)
      refine go_if_eq (tgt := 51) dX11_times_36 (by decide) (fun c8 => ?_) (fun c8 => ?_)
      · replace H := (gm_ite H).1 c8
        refine go_iconst (v := (-1 : Int32)) dX11_times_51 rfl ?_
        obtain rfl := Option.some.inj H
        exact go_ireturn dX11_times_52 (tyI_int rfl)
      · replace H := (gm_ite H).2 c8
        refine go_aload dX11_times_39 rfl ?_
        refine go_iload dX11_times_41 rfl ?_
        refine go_iload dX11_times_43 rfl ?_
        obtain ⟨c9, x6, ex6, H⟩ := gm_rc H
        refine go_callV (vs := [aI v4, aI v5]) (stk := []) (o1 := (some (aI x6), h)) mk_X0_hasVersion sv_X11_times_140 cl_X0 rfl dX11_times_45 c9 rfl rfl (Nat.le_of_ble_eq_true rfl) (Nat.le_of_ble_eq_true rfl) (ok_X0_hasVersion ex6) (show Go M_X11_times (some (aI r), h) 48 [some (aA v0), some (aI v1), some (aI v2), some (aI v3), some (aI v4), some (aI v5), some (aA x2), some (aA x4)] [aI x6] h from ?_)
        refine go_if_ne (tgt := 53) dX11_times_48 (by decide) (fun c10 => ?_) (fun c10 => ?_)
        · replace H := (gm_ite H).1 c10
          refine go_aload dX11_times_53 rfl ?_
          refine go_iloadn dX11_times_55 rfl ?_
          obtain ⟨c11, x7, ex7, H⟩ := gm_rc H
          refine go_callV (vs := [aI v3]) (stk := []) (o1 := (some (aI x7), h)) mk_X6_kindOf sv_X11_times_242 cl_X6 rfl dX11_times_56 c11 rfl rfl (Nat.le_of_ble_eq_true rfl) (Nat.le_of_ble_eq_true rfl) (ok_X6_kindOf ex7) (show Go M_X11_times (some (aI r), h) 59 [some (aA v0), some (aI v1), some (aI v2), some (aI v3), some (aI v4), some (aI v5), some (aA x2), some (aA x4)] [aI x7] h from ?_)
          refine go_if_ne (tgt := 81) dX11_times_59 (by decide) (fun c12 => ?_) (fun c12 => ?_)
          · replace H := (gm_ite H).1 c12
            refine go_iconst (v := (-1 : Int32)) dX11_times_81 rfl ?_
            refine go_mask [false, false, false, false, false, false, false, false] (loc' := [none, none, none, none, none, none, none, none]) rfl ?_
            exact okj_X11_times_82 (-1 : Int32) h  H
          · replace H := (gm_ite H).2 c12
            refine go_aloadn dX11_times_62 rfl ?_
            refine gm_getR fd_X11_37 dX11_times_63 H (fun x8 H => ?_)
            refine go_aload dX11_times_66 rfl ?_
            refine go_aload dX11_times_68 rfl ?_
            refine go_iloadn dX11_times_70 rfl ?_
            refine go_iload dX11_times_71 rfl ?_
            refine go_iload dX11_times_73 rfl ?_
            obtain ⟨c13, x9, ex9, H⟩ := gm_rc H
            refine go_callV (vs := [aA x2, aA x4, aI v3, aI v4, aI v5]) (stk := []) (o1 := (some (aI x9), h)) mk_X8_beginnings sv_X11_times_267 cl_X8 rfl dX11_times_75 c13 rfl rfl (Nat.le_of_ble_eq_true rfl) (Nat.le_of_ble_eq_true rfl) (ok_X8_beginnings ex9) (show Go M_X11_times (some (aI r), h) 78 [some (aA v0), some (aI v1), some (aI v2), some (aI v3), some (aI v4), some (aI v5), some (aA x2), some (aA x4)] [aI x9] h from ?_)
            refine go_goto (tgt := 82) dX11_times_78 (by decide) ?_
            refine go_mask [false, false, false, false, false, false, false, false] (loc' := [none, none, none, none, none, none, none, none]) rfl ?_
            exact okj_X11_times_82 x9 h  H
        · replace H := (gm_ite H).2 c10
          refine go_iconst (v := (-1 : Int32)) dX11_times_51 rfl ?_
          obtain rfl := Option.some.inj H
          exact go_ireturn dX11_times_52 (tyI_int rfl)
/-! X12_times -/
def j_X12_times_64  (s0 : Int32) (h : Hp) : Option (Int32 × Hp) :=
  some (s0, h)
set_option maxRecDepth 20000 in
theorem okj_X12_times_64 {r : (Int32 × Hp)}  (s0 : Int32) (h : Hp) (H : j_X12_times_64 s0 h = some r) : Go M_X12_times (some (aI r.1), r.2) 64 [none, none, none, none, none, none] [aI s0] h := by
  unfold j_X12_times_64 at H
  obtain rfl := Option.some.inj H
  exact go_ireturn dX12_times_64 (tyI_int rfl)
def m_X12_times (v0 : Nat) (v1 : Int32) (v2 : Int32) (v3 : Int32) (v4 : Int32) (v5 : Int32) (h : Hp) : Option (Int32 × Hp) :=
  (pfI h v0 12 0 (0 : Int32)).bind fun hh1 => (rc hh1 v0 12 (m_X12_hasAsking v0 v2 hh1)).bind fun x1 => if x1.1 = 0 then (some ((-1 : Int32), x1.2)) else (rc x1.2 v0 12 (m_X12_hand v0 v1 x1.2)).bind fun x2 => if x2.1 = 0 then (some ((-1 : Int32), x2.2)) else (rc x2.2 v0 12 (m_X12_isAsking v0 v3 x2.2)).bind fun x3 => if x3 = 0 then (some ((-1 : Int32), x2.2)) else (rc x2.2 v0 12 (m_X12_isVersion v0 v4 v5 x2.2)).bind fun x4 => if ¬ x4 = 0 then ((rc x2.2 v0 12 (m_X12_ofAsking v0 v3 (0 : Int32) x2.2)).bind fun x5 => if ¬ x5 = 0 then j_X12_times_64 (-1 : Int32) x2.2 else (rc x2.2 v0 12 (m_X12_timesOf v0 v3 v4 v5 x2.2)).bind fun x6 => j_X12_times_64 x6 x2.2) else some ((-1 : Int32), x2.2)
set_option maxRecDepth 20000 in
theorem ok_X12_times {r : (Int32 × Hp)} {v0 : Nat} {v1 : Int32} {v2 : Int32} {v3 : Int32} {v4 : Int32} {v5 : Int32} {h : Hp} (H : m_X12_times v0 v1 v2 v3 v4 v5 h = some r) : Ev M_X12_times [aA v0, aI v1, aI v2, aI v3, aI v4, aI v5] h (some (aI r.1), r.2) := by
  show Go M_X12_times (some (aI r.1), r.2) 0 [some (aA v0), some (aI v1), some (aI v2), some (aI v3), some (aI v4), some (aI v5)] [] h
  unfold m_X12_times at H
  refine go_aloadn dX12_times_0 rfl ?_
  refine go_iconst (v := (0 : Int32)) dX12_times_1 rfl ?_
  refine gm_putI fd_X12_60 (Or.inl rfl) dX12_times_2 H (fun hh1 H => ?_)
  refine go_aloadn dX12_times_5 rfl ?_
  refine go_iloadn dX12_times_6 rfl ?_
  obtain ⟨c1, x1, ex1, H⟩ := gm_rc H
  refine go_callV (vs := [aI v2]) (stk := []) (o1 := (some (aI x1.1), x1.2)) mk_X12_hasAsking sv_X12_times_374 cl_X12 rfl dX12_times_7 c1 rfl rfl (Nat.le_of_ble_eq_true rfl) (Nat.le_of_ble_eq_true rfl) (ok_X12_hasAsking ex1) (show Go M_X12_times (some (aI r.1), r.2) 10 [some (aA v0), some (aI v1), some (aI v2), some (aI v3), some (aI v4), some (aI v5)] [aI x1.1] x1.2 from ?_)
  refine go_if_eq (tgt := 40) dX12_times_10 (by decide) (fun c2 => ?_) (fun c2 => ?_)
  · replace H := (gm_ite H).1 c2
    refine go_iconst (v := (-1 : Int32)) dX12_times_40 rfl ?_
    obtain rfl := Option.some.inj H
    exact go_ireturn dX12_times_41 (tyI_int rfl)
  · replace H := (gm_ite H).2 c2
    refine go_aloadn dX12_times_13 rfl ?_
    refine go_iloadn dX12_times_14 rfl ?_
    obtain ⟨c3, x2, ex2, H⟩ := gm_rc H
    refine go_callV (vs := [aI v1]) (stk := []) (o1 := (some (aI x2.1), x2.2)) mk_X12_hand sv_X12_times_313 cl_X12 rfl dX12_times_15 c3 rfl rfl (Nat.le_of_ble_eq_true rfl) (Nat.le_of_ble_eq_true rfl) (ok_X12_hand ex2) (show Go M_X12_times (some (aI r.1), r.2) 18 [some (aA v0), some (aI v1), some (aI v2), some (aI v3), some (aI v4), some (aI v5)] [aI x2.1] x2.2 from ?_)
    refine go_if_eq (tgt := 40) dX12_times_18 (by decide) (fun c4 => ?_) (fun c4 => ?_)
    · replace H := (gm_ite H).1 c4
      refine go_iconst (v := (-1 : Int32)) dX12_times_40 rfl ?_
      obtain rfl := Option.some.inj H
      exact go_ireturn dX12_times_41 (tyI_int rfl)
    · replace H := (gm_ite H).2 c4
      refine go_aloadn dX12_times_21 rfl ?_
      refine go_iloadn dX12_times_22 rfl ?_
      obtain ⟨c5, x3, ex3, H⟩ := gm_rc H
      refine go_callV (vs := [aI v3]) (stk := []) (o1 := (some (aI x3), x2.2)) mk_X12_isAsking sv_X12_times_398 cl_X12 rfl dX12_times_23 c5 rfl rfl (Nat.le_of_ble_eq_true rfl) (Nat.le_of_ble_eq_true rfl) (ok_X12_isAsking ex3) (show Go M_X12_times (some (aI r.1), r.2) 26 [some (aA v0), some (aI v1), some (aI v2), some (aI v3), some (aI v4), some (aI v5)] [aI x3] x2.2 from ?_)
      refine go_if_eq (tgt := 40) dX12_times_26 (by decide) (fun c6 => ?_) (fun c6 => ?_)
      · replace H := (gm_ite H).1 c6
        refine go_iconst (v := (-1 : Int32)) dX12_times_40 rfl ?_
        obtain rfl := Option.some.inj H
        exact go_ireturn dX12_times_41 (tyI_int rfl)
      · replace H := (gm_ite H).2 c6
        refine go_aloadn dX12_times_29 rfl ?_
        refine go_iload dX12_times_30 rfl ?_
        refine go_iload dX12_times_32 rfl ?_
        obtain ⟨c7, x4, ex4, H⟩ := gm_rc H
        refine go_callV (vs := [aI v4, aI v5]) (stk := []) (o1 := (some (aI x4), x2.2)) mk_X12_isVersion sv_X12_times_284 cl_X12 rfl dX12_times_34 c7 rfl rfl (Nat.le_of_ble_eq_true rfl) (Nat.le_of_ble_eq_true rfl) (ok_X12_isVersion ex4) (show Go M_X12_times (some (aI r.1), r.2) 37 [some (aA v0), some (aI v1), some (aI v2), some (aI v3), some (aI v4), some (aI v5)] [aI x4] x2.2 from ?_)
        refine go_if_ne (tgt := 42) dX12_times_37 (by decide) (fun c8 => ?_) (fun c8 => ?_)
        · replace H := (gm_ite H).1 c8
          refine go_aloadn dX12_times_42 rfl ?_
          refine go_iloadn dX12_times_43 rfl ?_
          refine go_iconst (v := (0 : Int32)) dX12_times_44 rfl ?_
          obtain ⟨c9, x5, ex5, H⟩ := gm_rc H
          refine go_callV (vs := [aI v3, aI (0 : Int32)]) (stk := []) (o1 := (some (aI x5), x2.2)) mk_X12_ofAsking sv_X12_times_371 cl_X12 rfl dX12_times_45 c9 rfl rfl (Nat.le_of_ble_eq_true rfl) (Nat.le_of_ble_eq_true rfl) (ok_X12_ofAsking ex5) (show Go M_X12_times (some (aI r.1), r.2) 48 [some (aA v0), some (aI v1), some (aI v2), some (aI v3), some (aI v4), some (aI v5)] [aI x5] x2.2 from ?_)
          refine go_if_ne (tgt := 63) dX12_times_48 (by decide) (fun c10 => ?_) (fun c10 => ?_)
          · replace H := (gm_ite H).1 c10
            refine go_iconst (v := (-1 : Int32)) dX12_times_63 rfl ?_
            refine go_mask [false, false, false, false, false, false] (loc' := [none, none, none, none, none, none]) rfl ?_
            exact okj_X12_times_64 (-1 : Int32) x2.2  H
          · replace H := (gm_ite H).2 c10
            refine go_aloadn dX12_times_51 rfl ?_
            refine go_iloadn dX12_times_52 rfl ?_
            refine go_iload dX12_times_53 rfl ?_
            refine go_iload dX12_times_55 rfl ?_
            obtain ⟨c11, x6, ex6, H⟩ := gm_rc H
            refine go_callV (vs := [aI v3, aI v4, aI v5]) (stk := []) (o1 := (some (aI x6), x2.2)) mk_X12_timesOf sv_X12_times_386 cl_X12 rfl dX12_times_57 c11 rfl rfl (Nat.le_of_ble_eq_true rfl) (Nat.le_of_ble_eq_true rfl) (ok_X12_timesOf ex6) (show Go M_X12_times (some (aI r.1), r.2) 60 [some (aA v0), some (aI v1), some (aI v2), some (aI v3), some (aI v4), some (aI v5)] [aI x6] x2.2 from ?_)
            refine go_goto (tgt := 64) dX12_times_60 (by decide) ?_
            refine go_mask [false, false, false, false, false, false] (loc' := [none, none, none, none, none, none]) rfl ?_
            exact okj_X12_times_64 x6 x2.2  H
        · replace H := (gm_ite H).2 c8
          refine go_iconst (v := (-1 : Int32)) dX12_times_40 rfl ?_
          obtain rfl := Option.some.inj H
          exact go_ireturn dX12_times_41 (tyI_int rfl)
/-! X8_everIn -/
def j_X8_everIn_33 (v0 : Nat) (v1 : Nat) (v2 : Int32) (v4 : Int32) (s0 : Int32) (s1 : Int32) (h : Hp) (k : Int32 → Int32 → Option Int32) : Option Int32 :=
  k (s0 ||| s1) (v4 + (1 : Int32))
set_option maxRecDepth 20000 in
theorem okj_X8_everIn_33 {r : Int32} (v0 : Nat) (v1 : Nat) (v2 : Int32) (v4 : Int32) (s0 : Int32) (s1 : Int32) (h : Hp) (k : Int32 → Int32 → Option Int32) (Hk : ∀ (v3q : Int32) (v4q : Int32), k v3q v4q = some r → Go M_X8_everIn (some (aI r), h) 5 [some (aA v0), some (aA v1), some (aI v2), some (aI v3q), some (aI v4q)] [] h) (H : j_X8_everIn_33 v0 v1 v2 v4 s0 s1 h k = some r) : Go M_X8_everIn (some (aI r), h) 33 [some (aA v0), some (aA v1), some (aI v2), none, some (aI v4)] [aI s1, aI s0] h := by
  unfold j_X8_everIn_33 at H
  refine go_ior dX8_everIn_33 ?_
  refine go_istoren (loc2 := [some (aA v0), some (aA v1), some (aI v2), some (aI (s0 ||| s1)), some (aI v4)]) dX8_everIn_34 rfl (by decide) rfl ?_
  refine go_iinc (v := (v4 + (1 : Int32))) (loc2 := [some (aA v0), some (aA v1), some (aI v2), some (aI (s0 ||| s1)), some (aI (v4 + (1 : Int32)))]) dX8_everIn_35 rfl rfl (by decide) rfl ?_
  refine go_goto (tgt := 5) dX8_everIn_38 (by decide) ?_
  exact Hk (s0 ||| s1) (v4 + (1 : Int32)) H
def b_X8_everIn_5 (v0 : Nat) (v1 : Nat) (v2 : Int32) (h : Hp) (k : Int32 → Int32 → Option Int32) (v3 : Int32) (v4 : Int32) : Option Int32 :=
  (gfI h v1 1 0).bind fun x1 => if x1 ≤ v4 then (some v3) else (rc h v0 8 (m_X8_held v0 v2 v4 h)).bind fun x2 => if x2 = 0 then j_X8_everIn_33 v0 v1 v2 v4 v3 (0 : Int32) h k else j_X8_everIn_33 v0 v1 v2 v4 v3 (ishlF (1 : Int32) v4) h k
set_option maxRecDepth 20000 in
theorem okb_X8_everIn_5 {r : Int32} (v0 : Nat) (v1 : Nat) (v2 : Int32) (h : Hp) (k : Int32 → Int32 → Option Int32) (v3 : Int32) (v4 : Int32) (Hk : ∀ (v3q : Int32) (v4q : Int32), k v3q v4q = some r → Go M_X8_everIn (some (aI r), h) 5 [some (aA v0), some (aA v1), some (aI v2), some (aI v3q), some (aI v4q)] [] h) (H : b_X8_everIn_5 v0 v1 v2 h k v3 v4 = some r) : Go M_X8_everIn (some (aI r), h) 5 [some (aA v0), some (aA v1), some (aI v2), some (aI v3), some (aI v4)] [] h := by
  unfold b_X8_everIn_5 at H
  refine go_iload dX8_everIn_5 rfl ?_
  refine go_aloadn dX8_everIn_7 rfl ?_
  refine gm_getI fd_X8_19 dX8_everIn_8 H (fun x1 H => ?_)
  refine go_icmp_ge (tgt := 41) dX8_everIn_11 (by decide) (fun c1 => ?_) (fun c1 => ?_)
  · replace H := (gm_ite H).1 c1
    refine go_iloadn dX8_everIn_41 rfl ?_
    obtain rfl := Option.some.inj H
    exact go_ireturn dX8_everIn_42 (tyI_int rfl)
  · replace H := (gm_ite H).2 c1
    refine go_iloadn dX8_everIn_14 rfl ?_
    refine go_aloadn dX8_everIn_15 rfl ?_
    refine go_iloadn dX8_everIn_16 rfl ?_
    refine go_iload dX8_everIn_17 rfl ?_
    obtain ⟨c2, x2, ex2, H⟩ := gm_rc H
    refine go_callV (vs := [aI v2, aI v4]) (stk := [aI v3]) (o1 := (some (aI x2), h)) mk_X8_held sv_X8_everIn_41 cl_X8 rfl dX8_everIn_19 c2 rfl rfl (Nat.le_of_ble_eq_true rfl) (Nat.le_of_ble_eq_true rfl) (ok_X8_held ex2) (show Go M_X8_everIn (some (aI r), h) 22 [some (aA v0), some (aA v1), some (aI v2), some (aI v3), some (aI v4)] [aI x2, aI v3] h from ?_)
    refine go_if_eq (tgt := 32) dX8_everIn_22 (by decide) (fun c3 => ?_) (fun c3 => ?_)
    · replace H := (gm_ite H).1 c3
      refine go_iconst (v := (0 : Int32)) dX8_everIn_32 rfl ?_
      refine go_mask [true, true, true, false, true] (loc' := [some (aA v0), some (aA v1), some (aI v2), none, some (aI v4)]) rfl ?_
      exact okj_X8_everIn_33 v0 v1 v2 v4 v3 (0 : Int32) h k Hk H
    · replace H := (gm_ite H).2 c3
      refine go_iconst (v := (1 : Int32)) dX8_everIn_25 rfl ?_
      refine go_iload dX8_everIn_26 rfl ?_
      refine go_ishl dX8_everIn_28 ?_
      refine go_goto (tgt := 33) dX8_everIn_29 (by decide) ?_
      refine go_mask [true, true, true, false, true] (loc' := [some (aA v0), some (aA v1), some (aI v2), none, some (aI v4)]) rfl ?_
      exact okj_X8_everIn_33 v0 v1 v2 v4 v3 (ishlF (1 : Int32) v4) h k Hk H
def l_X8_everIn_5 (v0 : Nat) (v1 : Nat) (v2 : Int32) (h : Hp) (v3 : Int32) (v4 : Int32) : Option Int32 := loopK FUEL (fun (k : Int32 × Int32 → Option Int32) (s : Int32 × Int32) => b_X8_everIn_5 v0 v1 v2 h (fun v3q v4q => k (v3q, v4q)) s.1 s.2) (v3, v4)
theorem okl_X8_everIn_5 {r : Int32} (v0 : Nat) (v1 : Nat) (v2 : Int32) (h : Hp) (v3 : Int32) (v4 : Int32) (H : l_X8_everIn_5 v0 v1 v2 h v3 v4 = some r) : Go M_X8_everIn (some (aI r), h) 5 [some (aA v0), some (aA v1), some (aI v2), some (aI v3), some (aI v4)] [] h := by
  unfold l_X8_everIn_5 at H
  exact go_loop (σ := Int32 × Int32) (body := (fun (k : Int32 × Int32 → Option Int32) (s : Int32 × Int32) => b_X8_everIn_5 v0 v1 v2 h (fun v3q v4q => k (v3q, v4q)) s.1 s.2)) (fun s => [some (aA v0), some (aA v1), some (aI v2), some (aI s.1), some (aI s.2)]) (fun s => h) (fun k s Hk H => okb_X8_everIn_5 v0 v1 v2 h (fun v3q v4q => k (v3q, v4q)) s.1 s.2  (fun v3q v4q H => Hk (v3q, v4q) H) H) FUEL (v3, v4) H
def m_X8_everIn (v0 : Nat) (v1 : Nat) (v2 : Int32) (h : Hp) : Option Int32 :=
  l_X8_everIn_5 v0 v1 v2 h (0 : Int32) (0 : Int32)
set_option maxRecDepth 20000 in
theorem ok_X8_everIn {r : Int32} {v0 : Nat} {v1 : Nat} {v2 : Int32} {h : Hp} (H : m_X8_everIn v0 v1 v2 h = some r) : Ev M_X8_everIn [aA v0, aA v1, aI v2] h (some (aI r), h) := by
  show Go M_X8_everIn (some (aI r), h) 0 [some (aA v0), some (aA v1), some (aI v2), none, none] [] h
  unfold m_X8_everIn at H
  refine go_iconst (v := (0 : Int32)) dX8_everIn_0 rfl ?_
  refine go_istoren (loc2 := [some (aA v0), some (aA v1), some (aI v2), some (aI (0 : Int32)), none]) dX8_everIn_1 rfl (by decide) rfl ?_
  refine go_iconst (v := (0 : Int32)) dX8_everIn_2 rfl ?_
  refine go_istore (loc2 := [some (aA v0), some (aA v1), some (aI v2), some (aI (0 : Int32)), some (aI (0 : Int32))]) dX8_everIn_3 (by decide) rfl ?_
  exact okl_X8_everIn_5 v0 v1 v2 h (0 : Int32) (0 : Int32) H
/-! X8_alwaysIn -/
def j_X8_alwaysIn_39 (v0 : Nat) (v1 : Nat) (v2 : Int32) (v4 : Int32) (s0 : Int32) (s1 : Int32) (h : Hp) (k : Int32 → Int32 → Option Int32) : Option Int32 :=
  k (s0 ||| s1) (v4 + (1 : Int32))
set_option maxRecDepth 20000 in
theorem okj_X8_alwaysIn_39 {r : Int32} (v0 : Nat) (v1 : Nat) (v2 : Int32) (v4 : Int32) (s0 : Int32) (s1 : Int32) (h : Hp) (k : Int32 → Int32 → Option Int32) (Hk : ∀ (v3q : Int32) (v4q : Int32), k v3q v4q = some r → Go M_X8_alwaysIn (some (aI r), h) 5 [some (aA v0), some (aA v1), some (aI v2), some (aI v3q), some (aI v4q)] [] h) (H : j_X8_alwaysIn_39 v0 v1 v2 v4 s0 s1 h k = some r) : Go M_X8_alwaysIn (some (aI r), h) 39 [some (aA v0), some (aA v1), some (aI v2), none, some (aI v4)] [aI s1, aI s0] h := by
  unfold j_X8_alwaysIn_39 at H
  refine go_ior dX8_alwaysIn_39 ?_
  refine go_istoren (loc2 := [some (aA v0), some (aA v1), some (aI v2), some (aI (s0 ||| s1)), some (aI v4)]) dX8_alwaysIn_40 rfl (by decide) rfl ?_
  refine go_iinc (v := (v4 + (1 : Int32))) (loc2 := [some (aA v0), some (aA v1), some (aI v2), some (aI (s0 ||| s1)), some (aI (v4 + (1 : Int32)))]) dX8_alwaysIn_41 rfl rfl (by decide) rfl ?_
  refine go_goto (tgt := 5) dX8_alwaysIn_44 (by decide) ?_
  exact Hk (s0 ||| s1) (v4 + (1 : Int32)) H
def b_X8_alwaysIn_5 (v0 : Nat) (v1 : Nat) (v2 : Int32) (h : Hp) (k : Int32 → Int32 → Option Int32) (v3 : Int32) (v4 : Int32) : Option Int32 :=
  (gfI h v1 1 0).bind fun x1 => if x1 ≤ v4 then (some v3) else (rc h v0 8 (m_X8_held v0 v2 v4 h)).bind fun x2 => (rc h v1 1 (m_X0_everyVersion v1 v4 h)).bind fun x3 => if ¬ x2 = x3 then j_X8_alwaysIn_39 v0 v1 v2 v4 v3 (0 : Int32) h k else j_X8_alwaysIn_39 v0 v1 v2 v4 v3 (ishlF (1 : Int32) v4) h k
set_option maxRecDepth 20000 in
theorem okb_X8_alwaysIn_5 {r : Int32} (v0 : Nat) (v1 : Nat) (v2 : Int32) (h : Hp) (k : Int32 → Int32 → Option Int32) (v3 : Int32) (v4 : Int32) (Hk : ∀ (v3q : Int32) (v4q : Int32), k v3q v4q = some r → Go M_X8_alwaysIn (some (aI r), h) 5 [some (aA v0), some (aA v1), some (aI v2), some (aI v3q), some (aI v4q)] [] h) (H : b_X8_alwaysIn_5 v0 v1 v2 h k v3 v4 = some r) : Go M_X8_alwaysIn (some (aI r), h) 5 [some (aA v0), some (aA v1), some (aI v2), some (aI v3), some (aI v4)] [] h := by
  unfold b_X8_alwaysIn_5 at H
  refine go_iload dX8_alwaysIn_5 rfl ?_
  refine go_aloadn dX8_alwaysIn_7 rfl ?_
  refine gm_getI fd_X8_19 dX8_alwaysIn_8 H (fun x1 H => ?_)
  refine go_icmp_ge (tgt := 47) dX8_alwaysIn_11 (by decide) (fun c1 => ?_) (fun c1 => ?_)
  · replace H := (gm_ite H).1 c1
    refine go_iloadn dX8_alwaysIn_47 rfl ?_
    obtain rfl := Option.some.inj H
    exact go_ireturn dX8_alwaysIn_48 (tyI_int rfl)
  · replace H := (gm_ite H).2 c1
    refine go_iloadn dX8_alwaysIn_14 rfl ?_
    refine go_aloadn dX8_alwaysIn_15 rfl ?_
    refine go_iloadn dX8_alwaysIn_16 rfl ?_
    refine go_iload dX8_alwaysIn_17 rfl ?_
    obtain ⟨c2, x2, ex2, H⟩ := gm_rc H
    refine go_callV (vs := [aI v2, aI v4]) (stk := [aI v3]) (o1 := (some (aI x2), h)) mk_X8_held sv_X8_alwaysIn_41 cl_X8 rfl dX8_alwaysIn_19 c2 rfl rfl (Nat.le_of_ble_eq_true rfl) (Nat.le_of_ble_eq_true rfl) (ok_X8_held ex2) (show Go M_X8_alwaysIn (some (aI r), h) 22 [some (aA v0), some (aA v1), some (aI v2), some (aI v3), some (aI v4)] [aI x2, aI v3] h from ?_)
    refine go_aloadn dX8_alwaysIn_22 rfl ?_
    refine go_iload dX8_alwaysIn_23 rfl ?_
    obtain ⟨c3, x3, ex3, H⟩ := gm_rc H
    refine go_callV (vs := [aI v4]) (stk := [aI x2, aI v3]) (o1 := (some (aI x3), h)) mk_X0_everyVersion sv_X8_alwaysIn_48 cl_X0 rfl dX8_alwaysIn_25 c3 rfl rfl (Nat.le_of_ble_eq_true rfl) (Nat.le_of_ble_eq_true rfl) (ok_X0_everyVersion ex3) (show Go M_X8_alwaysIn (some (aI r), h) 28 [some (aA v0), some (aA v1), some (aI v2), some (aI v3), some (aI v4)] [aI x3, aI x2, aI v3] h from ?_)
    refine go_icmp_ne (tgt := 38) dX8_alwaysIn_28 (by decide) (fun c4 => ?_) (fun c4 => ?_)
    · replace H := (gm_ite H).1 c4
      refine go_iconst (v := (0 : Int32)) dX8_alwaysIn_38 rfl ?_
      refine go_mask [true, true, true, false, true] (loc' := [some (aA v0), some (aA v1), some (aI v2), none, some (aI v4)]) rfl ?_
      exact okj_X8_alwaysIn_39 v0 v1 v2 v4 v3 (0 : Int32) h k Hk H
    · replace H := (gm_ite H).2 c4
      refine go_iconst (v := (1 : Int32)) dX8_alwaysIn_31 rfl ?_
      refine go_iload dX8_alwaysIn_32 rfl ?_
      refine go_ishl dX8_alwaysIn_34 ?_
      refine go_goto (tgt := 39) dX8_alwaysIn_35 (by decide) ?_
      refine go_mask [true, true, true, false, true] (loc' := [some (aA v0), some (aA v1), some (aI v2), none, some (aI v4)]) rfl ?_
      exact okj_X8_alwaysIn_39 v0 v1 v2 v4 v3 (ishlF (1 : Int32) v4) h k Hk H
def l_X8_alwaysIn_5 (v0 : Nat) (v1 : Nat) (v2 : Int32) (h : Hp) (v3 : Int32) (v4 : Int32) : Option Int32 := loopK FUEL (fun (k : Int32 × Int32 → Option Int32) (s : Int32 × Int32) => b_X8_alwaysIn_5 v0 v1 v2 h (fun v3q v4q => k (v3q, v4q)) s.1 s.2) (v3, v4)
theorem okl_X8_alwaysIn_5 {r : Int32} (v0 : Nat) (v1 : Nat) (v2 : Int32) (h : Hp) (v3 : Int32) (v4 : Int32) (H : l_X8_alwaysIn_5 v0 v1 v2 h v3 v4 = some r) : Go M_X8_alwaysIn (some (aI r), h) 5 [some (aA v0), some (aA v1), some (aI v2), some (aI v3), some (aI v4)] [] h := by
  unfold l_X8_alwaysIn_5 at H
  exact go_loop (σ := Int32 × Int32) (body := (fun (k : Int32 × Int32 → Option Int32) (s : Int32 × Int32) => b_X8_alwaysIn_5 v0 v1 v2 h (fun v3q v4q => k (v3q, v4q)) s.1 s.2)) (fun s => [some (aA v0), some (aA v1), some (aI v2), some (aI s.1), some (aI s.2)]) (fun s => h) (fun k s Hk H => okb_X8_alwaysIn_5 v0 v1 v2 h (fun v3q v4q => k (v3q, v4q)) s.1 s.2  (fun v3q v4q H => Hk (v3q, v4q) H) H) FUEL (v3, v4) H
def m_X8_alwaysIn (v0 : Nat) (v1 : Nat) (v2 : Int32) (h : Hp) : Option Int32 :=
  l_X8_alwaysIn_5 v0 v1 v2 h (0 : Int32) (0 : Int32)
set_option maxRecDepth 20000 in
theorem ok_X8_alwaysIn {r : Int32} {v0 : Nat} {v1 : Nat} {v2 : Int32} {h : Hp} (H : m_X8_alwaysIn v0 v1 v2 h = some r) : Ev M_X8_alwaysIn [aA v0, aA v1, aI v2] h (some (aI r), h) := by
  show Go M_X8_alwaysIn (some (aI r), h) 0 [some (aA v0), some (aA v1), some (aI v2), none, none] [] h
  unfold m_X8_alwaysIn at H
  refine go_iconst (v := (0 : Int32)) dX8_alwaysIn_0 rfl ?_
  refine go_istoren (loc2 := [some (aA v0), some (aA v1), some (aI v2), some (aI (0 : Int32)), none]) dX8_alwaysIn_1 rfl (by decide) rfl ?_
  refine go_iconst (v := (0 : Int32)) dX8_alwaysIn_2 rfl ?_
  refine go_istore (loc2 := [some (aA v0), some (aA v1), some (aI v2), some (aI (0 : Int32)), some (aI (0 : Int32))]) dX8_alwaysIn_3 (by decide) rfl ?_
  exact okl_X8_alwaysIn_5 v0 v1 v2 h (0 : Int32) (0 : Int32) H
/-! X8_asOf -/
def j_X8_asOf_48 (v0 : Nat) (v1 : Nat) (v2 : Int32) (v3 : Int32) (v4 : Int32) (v5 : Int32) (v6 : Int32) (v7 : Int32)  (h : Hp) (K54 : Int32 → Option Int32) (k : Int32 → Int32 → Option Int32) : Option Int32 :=
  k v6 (v7 + (1 : Int32))
set_option maxRecDepth 20000 in
theorem okj_X8_asOf_48 {r : Int32} (v0 : Nat) (v1 : Nat) (v2 : Int32) (v3 : Int32) (v4 : Int32) (v5 : Int32) (v6 : Int32) (v7 : Int32)  (h : Hp) (K54 : Int32 → Option Int32) (k : Int32 → Int32 → Option Int32) (HK54 : ∀ (v6q : Int32) , K54 v6q = some r → Go M_X8_asOf (some (aI r), h) 54 [some (aA v0), some (aA v1), some (aI v2), some (aI v3), some (aI v4), some (aI v5), some (aI v6q), none] [] h) (Hk : ∀ (v6q : Int32) (v7q : Int32), k v6q v7q = some r → Go M_X8_asOf (some (aI r), h) 21 [some (aA v0), some (aA v1), some (aI v2), some (aI v3), some (aI v4), some (aI v5), some (aI v6q), some (aI v7q)] [] h) (H : j_X8_asOf_48 v0 v1 v2 v3 v4 v5 v6 v7 h K54 k = some r) : Go M_X8_asOf (some (aI r), h) 48 [some (aA v0), some (aA v1), some (aI v2), some (aI v3), some (aI v4), some (aI v5), some (aI v6), some (aI v7)] [] h := by
  unfold j_X8_asOf_48 at H
  refine go_iinc (v := (v7 + (1 : Int32))) (loc2 := [some (aA v0), some (aA v1), some (aI v2), some (aI v3), some (aI v4), some (aI v5), some (aI v6), some (aI (v7 + (1 : Int32)))]) dX8_asOf_48 rfl rfl (by decide) rfl ?_
  refine go_goto (tgt := 21) dX8_asOf_51 (by decide) ?_
  exact Hk v6 (v7 + (1 : Int32)) H
def b_X8_asOf_21 (v0 : Nat) (v1 : Nat) (v2 : Int32) (v3 : Int32) (v4 : Int32) (v5 : Int32) (h : Hp) (K54 : Int32 → Option Int32) (k : Int32 → Int32 → Option Int32) (v6 : Int32) (v7 : Int32) : Option Int32 :=
  (rc h v1 1 (m_X0_versionsOf v1 v5 h)).bind fun x1 => if x1 ≤ v7 then K54 v6 else (rc h v1 1 (m_X0_dateOf v1 v5 v7 h)).bind fun x2 => if v3 < x2 then j_X8_asOf_48 v0 v1 v2 v3 v4 v5 v6 v7 h K54 k else j_X8_asOf_48 v0 v1 v2 v3 v4 v5 v7 v7 h K54 k
set_option maxRecDepth 20000 in
theorem okb_X8_asOf_21 {r : Int32} (v0 : Nat) (v1 : Nat) (v2 : Int32) (v3 : Int32) (v4 : Int32) (v5 : Int32) (h : Hp) (K54 : Int32 → Option Int32) (k : Int32 → Int32 → Option Int32) (v6 : Int32) (v7 : Int32) (HK54 : ∀ (v6q : Int32) , K54 v6q = some r → Go M_X8_asOf (some (aI r), h) 54 [some (aA v0), some (aA v1), some (aI v2), some (aI v3), some (aI v4), some (aI v5), some (aI v6q), none] [] h) (Hk : ∀ (v6q : Int32) (v7q : Int32), k v6q v7q = some r → Go M_X8_asOf (some (aI r), h) 21 [some (aA v0), some (aA v1), some (aI v2), some (aI v3), some (aI v4), some (aI v5), some (aI v6q), some (aI v7q)] [] h) (H : b_X8_asOf_21 v0 v1 v2 v3 v4 v5 h K54 k v6 v7 = some r) : Go M_X8_asOf (some (aI r), h) 21 [some (aA v0), some (aA v1), some (aI v2), some (aI v3), some (aI v4), some (aI v5), some (aI v6), some (aI v7)] [] h := by
  unfold b_X8_asOf_21 at H
  refine go_iload dX8_asOf_21 rfl ?_
  refine go_aloadn dX8_asOf_23 rfl ?_
  refine go_iload dX8_asOf_24 rfl ?_
  obtain ⟨c1, x1, ex1, H⟩ := gm_rc H
  refine go_callV (vs := [aI v5]) (stk := [aI v7]) (o1 := (some (aI x1), h)) mk_X0_versionsOf sv_X8_asOf_54 cl_X0 rfl dX8_asOf_26 c1 rfl rfl (Nat.le_of_ble_eq_true rfl) (Nat.le_of_ble_eq_true rfl) (ok_X0_versionsOf ex1) (show Go M_X8_asOf (some (aI r), h) 29 [some (aA v0), some (aA v1), some (aI v2), some (aI v3), some (aI v4), some (aI v5), some (aI v6), some (aI v7)] [aI x1, aI v7] h from ?_)
  refine go_icmp_ge (tgt := 54) dX8_asOf_29 (by decide) (fun c2 => ?_) (fun c2 => ?_)
  · replace H := (gm_ite H).1 c2
    refine go_mask [true, true, true, true, true, true, true, false] (loc' := [some (aA v0), some (aA v1), some (aI v2), some (aI v3), some (aI v4), some (aI v5), some (aI v6), none]) rfl ?_
    exact HK54 v6 H
  · replace H := (gm_ite H).2 c2
    refine go_aloadn dX8_asOf_32 rfl ?_
    refine go_iload dX8_asOf_33 rfl ?_
    refine go_iload dX8_asOf_35 rfl ?_
    obtain ⟨c3, x2, ex2, H⟩ := gm_rc H
    refine go_callV (vs := [aI v5, aI v7]) (stk := []) (o1 := (some (aI x2), h)) mk_X0_dateOf sv_X8_asOf_99 cl_X0 rfl dX8_asOf_37 c3 rfl rfl (Nat.le_of_ble_eq_true rfl) (Nat.le_of_ble_eq_true rfl) (ok_X0_dateOf ex2) (show Go M_X8_asOf (some (aI r), h) 40 [some (aA v0), some (aA v1), some (aI v2), some (aI v3), some (aI v4), some (aI v5), some (aI v6), some (aI v7)] [aI x2] h from ?_)
    refine go_iloadn dX8_asOf_40 rfl ?_
    refine go_icmp_gt (tgt := 48) dX8_asOf_41 (by decide) (fun c4 => ?_) (fun c4 => ?_)
    · replace H := (gm_ite H).1 c4
      exact okj_X8_asOf_48 v0 v1 v2 v3 v4 v5 v6 v7 h K54 k HK54 Hk H
    · replace H := (gm_ite H).2 c4
      refine go_iload dX8_asOf_44 rfl ?_
      refine go_istore (loc2 := [some (aA v0), some (aA v1), some (aI v2), some (aI v3), some (aI v4), some (aI v5), some (aI v7), some (aI v7)]) dX8_asOf_46 (by decide) rfl ?_
      exact okj_X8_asOf_48 v0 v1 v2 v3 v4 v5 v7 v7 h K54 k HK54 Hk H
def l_X8_asOf_21 (v0 : Nat) (v1 : Nat) (v2 : Int32) (v3 : Int32) (v4 : Int32) (v5 : Int32) (h : Hp) (K54 : Int32 → Option Int32) (v6 : Int32) (v7 : Int32) : Option Int32 := loopK FUEL (fun (k : Int32 × Int32 → Option Int32) (s : Int32 × Int32) => b_X8_asOf_21 v0 v1 v2 v3 v4 v5 h K54 (fun v6q v7q => k (v6q, v7q)) s.1 s.2) (v6, v7)
theorem okl_X8_asOf_21 {r : Int32} (v0 : Nat) (v1 : Nat) (v2 : Int32) (v3 : Int32) (v4 : Int32) (v5 : Int32) (h : Hp) (K54 : Int32 → Option Int32) (v6 : Int32) (v7 : Int32) (HK54 : ∀ (v6q : Int32) , K54 v6q = some r → Go M_X8_asOf (some (aI r), h) 54 [some (aA v0), some (aA v1), some (aI v2), some (aI v3), some (aI v4), some (aI v5), some (aI v6q), none] [] h) (H : l_X8_asOf_21 v0 v1 v2 v3 v4 v5 h K54 v6 v7 = some r) : Go M_X8_asOf (some (aI r), h) 21 [some (aA v0), some (aA v1), some (aI v2), some (aI v3), some (aI v4), some (aI v5), some (aI v6), some (aI v7)] [] h := by
  unfold l_X8_asOf_21 at H
  exact go_loop (σ := Int32 × Int32) (body := (fun (k : Int32 × Int32 → Option Int32) (s : Int32 × Int32) => b_X8_asOf_21 v0 v1 v2 v3 v4 v5 h K54 (fun v6q v7q => k (v6q, v7q)) s.1 s.2)) (fun s => [some (aA v0), some (aA v1), some (aI v2), some (aI v3), some (aI v4), some (aI v5), some (aI s.1), some (aI s.2)]) (fun s => h) (fun k s Hk H => okb_X8_asOf_21 v0 v1 v2 v3 v4 v5 h K54 (fun v6q v7q => k (v6q, v7q)) s.1 s.2 HK54 (fun v6q v7q H => Hk (v6q, v7q) H) H) FUEL (v6, v7) H
def j_X8_asOf_54 (v0 : Nat) (v1 : Nat) (v2 : Int32) (v3 : Int32) (v4 : Int32) (v5 : Int32) (v6 : Int32)  (h : Hp) (k : Int32 → Int32 → Option Int32) : Option Int32 :=
  (rc h v0 8 (m_X8_held v0 v2 v5 h)).bind fun x1 => (m_X5_bit x1 v6 h).bind fun x2 => k (v4 ||| (ishlF x2 v5)) (v5 + (1 : Int32))
set_option maxRecDepth 20000 in
theorem okj_X8_asOf_54 {r : Int32} (v0 : Nat) (v1 : Nat) (v2 : Int32) (v3 : Int32) (v4 : Int32) (v5 : Int32) (v6 : Int32)  (h : Hp) (k : Int32 → Int32 → Option Int32) (Hk : ∀ (v4q : Int32) (v5q : Int32), k v4q v5q = some r → Go M_X8_asOf (some (aI r), h) 6 [some (aA v0), some (aA v1), some (aI v2), some (aI v3), some (aI v4q), some (aI v5q), none, none] [] h) (H : j_X8_asOf_54 v0 v1 v2 v3 v4 v5 v6 h k = some r) : Go M_X8_asOf (some (aI r), h) 54 [some (aA v0), some (aA v1), some (aI v2), some (aI v3), some (aI v4), some (aI v5), some (aI v6), none] [] h := by
  unfold j_X8_asOf_54 at H
  refine go_iload dX8_asOf_54 rfl ?_
  refine go_aloadn dX8_asOf_56 rfl ?_
  refine go_iloadn dX8_asOf_57 rfl ?_
  refine go_iload dX8_asOf_58 rfl ?_
  obtain ⟨c1, x1, ex1, H⟩ := gm_rc H
  refine go_callV (vs := [aI v2, aI v5]) (stk := [aI v4]) (o1 := (some (aI x1), h)) mk_X8_held sv_X8_asOf_41 cl_X8 rfl dX8_asOf_60 c1 rfl rfl (Nat.le_of_ble_eq_true rfl) (Nat.le_of_ble_eq_true rfl) (ok_X8_held ex1) (show Go M_X8_asOf (some (aI r), h) 63 [some (aA v0), some (aA v1), some (aI v2), some (aI v3), some (aI v4), some (aI v5), some (aI v6), none] [aI x1, aI v4] h from ?_)
  refine go_iload dX8_asOf_63 rfl ?_
  obtain ⟨x2, ex2, H⟩ := bind_some H
  refine go_callS (vs := [aI x1, aI v6]) (stk := [aI v4]) (o1 := (some (aI x2), h)) mk_X5_bit ss_X8_asOf_102 dX8_asOf_65 rfl rfl (Nat.le_of_ble_eq_true rfl) (Nat.le_of_ble_eq_true rfl) (ok_X5_bit ex2) (show Go M_X8_asOf (some (aI r), h) 68 [some (aA v0), some (aA v1), some (aI v2), some (aI v3), some (aI v4), some (aI v5), some (aI v6), none] [aI x2, aI v4] h from ?_)
  refine go_iload dX8_asOf_68 rfl ?_
  refine go_ishl dX8_asOf_70 ?_
  refine go_ior dX8_asOf_71 ?_
  refine go_istore (loc2 := [some (aA v0), some (aA v1), some (aI v2), some (aI v3), some (aI (v4 ||| (ishlF x2 v5))), some (aI v5), some (aI v6), none]) dX8_asOf_72 (by decide) rfl ?_
  refine go_iinc (v := (v5 + (1 : Int32))) (loc2 := [some (aA v0), some (aA v1), some (aI v2), some (aI v3), some (aI (v4 ||| (ishlF x2 v5))), some (aI (v5 + (1 : Int32))), some (aI v6), none]) dX8_asOf_74 rfl rfl (by decide) rfl ?_
  refine go_goto (tgt := 6) dX8_asOf_77 (by decide) ?_
  refine go_mask [true, true, true, true, true, true, false, false] (loc' := [some (aA v0), some (aA v1), some (aI v2), some (aI v3), some (aI (v4 ||| (ishlF x2 v5))), some (aI (v5 + (1 : Int32))), none, none]) rfl ?_
  exact Hk (v4 ||| (ishlF x2 v5)) (v5 + (1 : Int32)) H
def b_X8_asOf_6 (v0 : Nat) (v1 : Nat) (v2 : Int32) (v3 : Int32) (h : Hp) (k : Int32 → Int32 → Option Int32) (v4 : Int32) (v5 : Int32) : Option Int32 :=
  (gfI h v1 1 0).bind fun x1 => if x1 ≤ v5 then (some v4) else l_X8_asOf_21 v0 v1 v2 v3 v4 v5 h (fun a2_6 => j_X8_asOf_54 v0 v1 v2 v3 v4 v5 a2_6 h k) (-1 : Int32) (0 : Int32)
set_option maxRecDepth 20000 in
theorem okb_X8_asOf_6 {r : Int32} (v0 : Nat) (v1 : Nat) (v2 : Int32) (v3 : Int32) (h : Hp) (k : Int32 → Int32 → Option Int32) (v4 : Int32) (v5 : Int32) (Hk : ∀ (v4q : Int32) (v5q : Int32), k v4q v5q = some r → Go M_X8_asOf (some (aI r), h) 6 [some (aA v0), some (aA v1), some (aI v2), some (aI v3), some (aI v4q), some (aI v5q), none, none] [] h) (H : b_X8_asOf_6 v0 v1 v2 v3 h k v4 v5 = some r) : Go M_X8_asOf (some (aI r), h) 6 [some (aA v0), some (aA v1), some (aI v2), some (aI v3), some (aI v4), some (aI v5), none, none] [] h := by
  unfold b_X8_asOf_6 at H
  refine go_iload dX8_asOf_6 rfl ?_
  refine go_aloadn dX8_asOf_8 rfl ?_
  refine gm_getI fd_X8_19 dX8_asOf_9 H (fun x1 H => ?_)
  refine go_icmp_ge (tgt := 80) dX8_asOf_12 (by decide) (fun c1 => ?_) (fun c1 => ?_)
  · replace H := (gm_ite H).1 c1
    refine go_iload dX8_asOf_80 rfl ?_
    obtain rfl := Option.some.inj H
    exact go_ireturn dX8_asOf_82 (tyI_int rfl)
  · replace H := (gm_ite H).2 c1
    refine go_iconst (v := (-1 : Int32)) dX8_asOf_15 rfl ?_
    refine go_istore (loc2 := [some (aA v0), some (aA v1), some (aI v2), some (aI v3), some (aI v4), some (aI v5), some (aI (-1 : Int32)), none]) dX8_asOf_16 (by decide) rfl ?_
    refine go_iconst (v := (0 : Int32)) dX8_asOf_18 rfl ?_
    refine go_istore (loc2 := [some (aA v0), some (aA v1), some (aI v2), some (aI v3), some (aI v4), some (aI v5), some (aI (-1 : Int32)), some (aI (0 : Int32))]) dX8_asOf_19 (by decide) rfl ?_
    refine okl_X8_asOf_21 v0 v1 v2 v3 v4 v5 h (fun a2_6 => j_X8_asOf_54 v0 v1 v2 v3 v4 v5 a2_6 h k) (-1 : Int32) (0 : Int32) ?_ H
    · intro a2_6 H
      exact okj_X8_asOf_54 v0 v1 v2 v3 v4 v5 a2_6 h k Hk H
def l_X8_asOf_6 (v0 : Nat) (v1 : Nat) (v2 : Int32) (v3 : Int32) (h : Hp) (v4 : Int32) (v5 : Int32) : Option Int32 := loopK FUEL (fun (k : Int32 × Int32 → Option Int32) (s : Int32 × Int32) => b_X8_asOf_6 v0 v1 v2 v3 h (fun v4q v5q => k (v4q, v5q)) s.1 s.2) (v4, v5)
theorem okl_X8_asOf_6 {r : Int32} (v0 : Nat) (v1 : Nat) (v2 : Int32) (v3 : Int32) (h : Hp) (v4 : Int32) (v5 : Int32) (H : l_X8_asOf_6 v0 v1 v2 v3 h v4 v5 = some r) : Go M_X8_asOf (some (aI r), h) 6 [some (aA v0), some (aA v1), some (aI v2), some (aI v3), some (aI v4), some (aI v5), none, none] [] h := by
  unfold l_X8_asOf_6 at H
  exact go_loop (σ := Int32 × Int32) (body := (fun (k : Int32 × Int32 → Option Int32) (s : Int32 × Int32) => b_X8_asOf_6 v0 v1 v2 v3 h (fun v4q v5q => k (v4q, v5q)) s.1 s.2)) (fun s => [some (aA v0), some (aA v1), some (aI v2), some (aI v3), some (aI s.1), some (aI s.2), none, none]) (fun s => h) (fun k s Hk H => okb_X8_asOf_6 v0 v1 v2 v3 h (fun v4q v5q => k (v4q, v5q)) s.1 s.2  (fun v4q v5q H => Hk (v4q, v5q) H) H) FUEL (v4, v5) H
def m_X8_asOf (v0 : Nat) (v1 : Nat) (v2 : Int32) (v3 : Int32) (h : Hp) : Option Int32 :=
  l_X8_asOf_6 v0 v1 v2 v3 h (0 : Int32) (0 : Int32)
set_option maxRecDepth 20000 in
theorem ok_X8_asOf {r : Int32} {v0 : Nat} {v1 : Nat} {v2 : Int32} {v3 : Int32} {h : Hp} (H : m_X8_asOf v0 v1 v2 v3 h = some r) : Ev M_X8_asOf [aA v0, aA v1, aI v2, aI v3] h (some (aI r), h) := by
  show Go M_X8_asOf (some (aI r), h) 0 [some (aA v0), some (aA v1), some (aI v2), some (aI v3), none, none, none, none] [] h
  unfold m_X8_asOf at H
  refine go_iconst (v := (0 : Int32)) dX8_asOf_0 rfl ?_
  refine go_istore (loc2 := [some (aA v0), some (aA v1), some (aI v2), some (aI v3), some (aI (0 : Int32)), none, none, none]) dX8_asOf_1 (by decide) rfl ?_
  refine go_iconst (v := (0 : Int32)) dX8_asOf_3 rfl ?_
  refine go_istore (loc2 := [some (aA v0), some (aA v1), some (aI v2), some (aI v3), some (aI (0 : Int32)), some (aI (0 : Int32)), none, none]) dX8_asOf_4 (by decide) rfl ?_
  exact okl_X8_asOf_6 v0 v1 v2 v3 h (0 : Int32) (0 : Int32) H
/-! X8_isChange -/
def j_X8_isChange_24  (s0 : Int32) (h : Hp) : Option Int32 :=
  (zb s0).bind fun x1 => some x1
set_option maxRecDepth 20000 in
theorem okj_X8_isChange_24 {r : Int32}  (s0 : Int32) (h : Hp) (H : j_X8_isChange_24 s0 h = some r) : Go M_X8_isChange (some (aI r), h) 24 [none, none, none, none] [aI s0] h := by
  unfold j_X8_isChange_24 at H
  obtain ⟨hz, H⟩ := gm_zb H
  obtain rfl := Option.some.inj H
  exact go_ireturn (x := s0) dX8_isChange_24 (tyI_bool rfl hz)
def m_X8_isChange (v0 : Nat) (v1 : Nat) (v2 : Int32) (v3 : Int32) (h : Hp) : Option Int32 :=
  (rc h v0 8 (m_X8_asOf v0 v1 v2 v3 h)).bind fun x1 => (rc h v0 8 (m_X8_asOf v0 v1 v2 (v3 - (1 : Int32)) h)).bind fun x2 => j_X8_isChange_24 (if x1 = x2 then (0 : Int32) else (1 : Int32)) h
set_option maxRecDepth 20000 in
theorem ok_X8_isChange {r : Int32} {v0 : Nat} {v1 : Nat} {v2 : Int32} {v3 : Int32} {h : Hp} (H : m_X8_isChange v0 v1 v2 v3 h = some r) : Ev M_X8_isChange [aA v0, aA v1, aI v2, aI v3] h (some (aI r), h) := by
  show Go M_X8_isChange (some (aI r), h) 0 [some (aA v0), some (aA v1), some (aI v2), some (aI v3)] [] h
  unfold m_X8_isChange at H
  refine go_aloadn dX8_isChange_0 rfl ?_
  refine go_aloadn dX8_isChange_1 rfl ?_
  refine go_iloadn dX8_isChange_2 rfl ?_
  refine go_iloadn dX8_isChange_3 rfl ?_
  obtain ⟨c1, x1, ex1, H⟩ := gm_rc H
  refine go_callV (vs := [aA v1, aI v2, aI v3]) (stk := []) (o1 := (some (aI x1), h)) mk_X8_asOf sv_X8_isChange_113 cl_X8 rfl dX8_isChange_4 c1 rfl rfl (Nat.le_of_ble_eq_true rfl) (Nat.le_of_ble_eq_true rfl) (ok_X8_asOf ex1) (show Go M_X8_isChange (some (aI r), h) 7 [some (aA v0), some (aA v1), some (aI v2), some (aI v3)] [aI x1] h from ?_)
  refine go_aloadn dX8_isChange_7 rfl ?_
  refine go_aloadn dX8_isChange_8 rfl ?_
  refine go_iloadn dX8_isChange_9 rfl ?_
  refine go_iloadn dX8_isChange_10 rfl ?_
  refine go_iconst (v := (1 : Int32)) dX8_isChange_11 rfl ?_
  refine go_isub dX8_isChange_12 ?_
  obtain ⟨c2, x2, ex2, H⟩ := gm_rc H
  refine go_callV (vs := [aA v1, aI v2, aI (v3 - (1 : Int32))]) (stk := [aI x1]) (o1 := (some (aI x2), h)) mk_X8_asOf sv_X8_isChange_113 cl_X8 rfl dX8_isChange_13 c2 rfl rfl (Nat.le_of_ble_eq_true rfl) (Nat.le_of_ble_eq_true rfl) (ok_X8_asOf ex2) (show Go M_X8_isChange (some (aI r), h) 16 [some (aA v0), some (aA v1), some (aI v2), some (aI v3)] [aI x2, aI x1] h from ?_)
  refine go_icmp_eq (tgt := 23) dX8_isChange_16 (by decide) (fun c3 => ?_) (fun c3 => ?_)
  · rw [if_pos c3] at H
    refine go_iconst (v := (0 : Int32)) dX8_isChange_23 rfl ?_
    refine go_mask [false, false, false, false] (loc' := [none, none, none, none]) rfl ?_
    exact okj_X8_isChange_24 (0 : Int32) h  H
  · rw [if_neg c3] at H
    refine go_iconst (v := (1 : Int32)) dX8_isChange_19 rfl ?_
    refine go_goto (tgt := 24) dX8_isChange_20 (by decide) ?_
    refine go_mask [false, false, false, false] (loc' := [none, none, none, none]) rfl ?_
    exact okj_X8_isChange_24 (1 : Int32) h  H
/-! X8_changes -/
def j_X8_changes_31 (v0 : Nat) (v1 : Nat) (v2 : Int32) (v4 : Int32) (s0 : Int32) (s1 : Int32) (h : Hp) (k : Int32 → Int32 → Option Int32) : Option Int32 :=
  k (s0 + s1) (v4 + (1 : Int32))
set_option maxRecDepth 20000 in
theorem okj_X8_changes_31 {r : Int32} (v0 : Nat) (v1 : Nat) (v2 : Int32) (v4 : Int32) (s0 : Int32) (s1 : Int32) (h : Hp) (k : Int32 → Int32 → Option Int32) (Hk : ∀ (v3q : Int32) (v4q : Int32), k v3q v4q = some r → Go M_X8_changes (some (aI r), h) 5 [some (aA v0), some (aA v1), some (aI v2), some (aI v3q), some (aI v4q)] [] h) (H : j_X8_changes_31 v0 v1 v2 v4 s0 s1 h k = some r) : Go M_X8_changes (some (aI r), h) 31 [some (aA v0), some (aA v1), some (aI v2), none, some (aI v4)] [aI s1, aI s0] h := by
  unfold j_X8_changes_31 at H
  refine go_iadd dX8_changes_31 ?_
  refine go_istoren (loc2 := [some (aA v0), some (aA v1), some (aI v2), some (aI (s0 + s1)), some (aI v4)]) dX8_changes_32 rfl (by decide) rfl ?_
  refine go_iinc (v := (v4 + (1 : Int32))) (loc2 := [some (aA v0), some (aA v1), some (aI v2), some (aI (s0 + s1)), some (aI (v4 + (1 : Int32)))]) dX8_changes_33 rfl rfl (by decide) rfl ?_
  refine go_goto (tgt := 5) dX8_changes_36 (by decide) ?_
  exact Hk (s0 + s1) (v4 + (1 : Int32)) H
def b_X8_changes_5 (v0 : Nat) (v1 : Nat) (v2 : Int32) (h : Hp) (k : Int32 → Int32 → Option Int32) (v3 : Int32) (v4 : Int32) : Option Int32 :=
  (rc h v1 1 (m_X0_versionsOfAll v1 h)).bind fun x1 => if x1 ≤ v4 then (some v3) else (rc h v0 8 (m_X8_isChange v0 v1 v2 v4 h)).bind fun x2 => j_X8_changes_31 v0 v1 v2 v4 v3 (if x2 = 0 then (0 : Int32) else (1 : Int32)) h k
set_option maxRecDepth 20000 in
theorem okb_X8_changes_5 {r : Int32} (v0 : Nat) (v1 : Nat) (v2 : Int32) (h : Hp) (k : Int32 → Int32 → Option Int32) (v3 : Int32) (v4 : Int32) (Hk : ∀ (v3q : Int32) (v4q : Int32), k v3q v4q = some r → Go M_X8_changes (some (aI r), h) 5 [some (aA v0), some (aA v1), some (aI v2), some (aI v3q), some (aI v4q)] [] h) (H : b_X8_changes_5 v0 v1 v2 h k v3 v4 = some r) : Go M_X8_changes (some (aI r), h) 5 [some (aA v0), some (aA v1), some (aI v2), some (aI v3), some (aI v4)] [] h := by
  unfold b_X8_changes_5 at H
  refine go_iload dX8_changes_5 rfl ?_
  refine go_aloadn dX8_changes_7 rfl ?_
  obtain ⟨c1, x1, ex1, H⟩ := gm_rc H
  refine go_callV (vs := []) (stk := [aI v4]) (o1 := (some (aI x1), h)) mk_X0_versionsOfAll sv_X8_changes_105 cl_X0 rfl dX8_changes_8 c1 rfl rfl (Nat.le_of_ble_eq_true rfl) (Nat.le_of_ble_eq_true rfl) (ok_X0_versionsOfAll ex1) (show Go M_X8_changes (some (aI r), h) 11 [some (aA v0), some (aA v1), some (aI v2), some (aI v3), some (aI v4)] [aI x1, aI v4] h from ?_)
  refine go_icmp_ge (tgt := 39) dX8_changes_11 (by decide) (fun c2 => ?_) (fun c2 => ?_)
  · replace H := (gm_ite H).1 c2
    refine go_iloadn dX8_changes_39 rfl ?_
    obtain rfl := Option.some.inj H
    exact go_ireturn dX8_changes_40 (tyI_int rfl)
  · replace H := (gm_ite H).2 c2
    refine go_iloadn dX8_changes_14 rfl ?_
    refine go_aloadn dX8_changes_15 rfl ?_
    refine go_aloadn dX8_changes_16 rfl ?_
    refine go_iloadn dX8_changes_17 rfl ?_
    refine go_iload dX8_changes_18 rfl ?_
    obtain ⟨c3, x2, ex2, H⟩ := gm_rc H
    refine go_callV (vs := [aA v1, aI v2, aI v4]) (stk := [aI v3]) (o1 := (some (aI x2), h)) mk_X8_isChange sv_X8_changes_109 cl_X8 rfl dX8_changes_20 c3 rfl rfl (Nat.le_of_ble_eq_true rfl) (Nat.le_of_ble_eq_true rfl) (ok_X8_isChange ex2) (show Go M_X8_changes (some (aI r), h) 23 [some (aA v0), some (aA v1), some (aI v2), some (aI v3), some (aI v4)] [aI x2, aI v3] h from ?_)
    refine go_if_eq (tgt := 30) dX8_changes_23 (by decide) (fun c4 => ?_) (fun c4 => ?_)
    · rw [if_pos c4] at H
      refine go_iconst (v := (0 : Int32)) dX8_changes_30 rfl ?_
      refine go_mask [true, true, true, false, true] (loc' := [some (aA v0), some (aA v1), some (aI v2), none, some (aI v4)]) rfl ?_
      exact okj_X8_changes_31 v0 v1 v2 v4 v3 (0 : Int32) h k Hk H
    · rw [if_neg c4] at H
      refine go_iconst (v := (1 : Int32)) dX8_changes_26 rfl ?_
      refine go_goto (tgt := 31) dX8_changes_27 (by decide) ?_
      refine go_mask [true, true, true, false, true] (loc' := [some (aA v0), some (aA v1), some (aI v2), none, some (aI v4)]) rfl ?_
      exact okj_X8_changes_31 v0 v1 v2 v4 v3 (1 : Int32) h k Hk H
def l_X8_changes_5 (v0 : Nat) (v1 : Nat) (v2 : Int32) (h : Hp) (v3 : Int32) (v4 : Int32) : Option Int32 := loopK FUEL (fun (k : Int32 × Int32 → Option Int32) (s : Int32 × Int32) => b_X8_changes_5 v0 v1 v2 h (fun v3q v4q => k (v3q, v4q)) s.1 s.2) (v3, v4)
theorem okl_X8_changes_5 {r : Int32} (v0 : Nat) (v1 : Nat) (v2 : Int32) (h : Hp) (v3 : Int32) (v4 : Int32) (H : l_X8_changes_5 v0 v1 v2 h v3 v4 = some r) : Go M_X8_changes (some (aI r), h) 5 [some (aA v0), some (aA v1), some (aI v2), some (aI v3), some (aI v4)] [] h := by
  unfold l_X8_changes_5 at H
  exact go_loop (σ := Int32 × Int32) (body := (fun (k : Int32 × Int32 → Option Int32) (s : Int32 × Int32) => b_X8_changes_5 v0 v1 v2 h (fun v3q v4q => k (v3q, v4q)) s.1 s.2)) (fun s => [some (aA v0), some (aA v1), some (aI v2), some (aI s.1), some (aI s.2)]) (fun s => h) (fun k s Hk H => okb_X8_changes_5 v0 v1 v2 h (fun v3q v4q => k (v3q, v4q)) s.1 s.2  (fun v3q v4q H => Hk (v3q, v4q) H) H) FUEL (v3, v4) H
def m_X8_changes (v0 : Nat) (v1 : Nat) (v2 : Int32) (h : Hp) : Option Int32 :=
  l_X8_changes_5 v0 v1 v2 h (0 : Int32) (0 : Int32)
set_option maxRecDepth 20000 in
theorem ok_X8_changes {r : Int32} {v0 : Nat} {v1 : Nat} {v2 : Int32} {h : Hp} (H : m_X8_changes v0 v1 v2 h = some r) : Ev M_X8_changes [aA v0, aA v1, aI v2] h (some (aI r), h) := by
  show Go M_X8_changes (some (aI r), h) 0 [some (aA v0), some (aA v1), some (aI v2), none, none] [] h
  unfold m_X8_changes at H
  refine go_iconst (v := (0 : Int32)) dX8_changes_0 rfl ?_
  refine go_istoren (loc2 := [some (aA v0), some (aA v1), some (aI v2), some (aI (0 : Int32)), none]) dX8_changes_1 rfl (by decide) rfl ?_
  refine go_iconst (v := (0 : Int32)) dX8_changes_2 rfl ?_
  refine go_istore (loc2 := [some (aA v0), some (aA v1), some (aI v2), some (aI (0 : Int32)), some (aI (0 : Int32))]) dX8_changes_3 (by decide) rfl ?_
  exact okl_X8_changes_5 v0 v1 v2 h (0 : Int32) (0 : Int32) H
/-! X8_versionsHeld -/
def b_X8_versionsHeld_5 (v0 : Nat) (v1 : Nat) (v2 : Int32) (h : Hp) (k : Int32 → Int32 → Option Int32) (v3 : Int32) (v4 : Int32) : Option Int32 :=
  (gfI h v1 1 0).bind fun x1 => if x1 ≤ v4 then (some v3) else (rc h v0 8 (m_X8_held v0 v2 v4 h)).bind fun x2 => (m_J6_bitCount_0f7a4 x2 h).bind fun x3 => k (v3 + x3) (v4 + (1 : Int32))
set_option maxRecDepth 20000 in
theorem okb_X8_versionsHeld_5 {r : Int32} (v0 : Nat) (v1 : Nat) (v2 : Int32) (h : Hp) (k : Int32 → Int32 → Option Int32) (v3 : Int32) (v4 : Int32) (Hk : ∀ (v3q : Int32) (v4q : Int32), k v3q v4q = some r → Go M_X8_versionsHeld (some (aI r), h) 5 [some (aA v0), some (aA v1), some (aI v2), some (aI v3q), some (aI v4q)] [] h) (H : b_X8_versionsHeld_5 v0 v1 v2 h k v3 v4 = some r) : Go M_X8_versionsHeld (some (aI r), h) 5 [some (aA v0), some (aA v1), some (aI v2), some (aI v3), some (aI v4)] [] h := by
  unfold b_X8_versionsHeld_5 at H
  refine go_iload dX8_versionsHeld_5 rfl ?_
  refine go_aloadn dX8_versionsHeld_7 rfl ?_
  refine gm_getI fd_X8_19 dX8_versionsHeld_8 H (fun x1 H => ?_)
  refine go_icmp_ge (tgt := 33) dX8_versionsHeld_11 (by decide) (fun c1 => ?_) (fun c1 => ?_)
  · replace H := (gm_ite H).1 c1
    refine go_iloadn dX8_versionsHeld_33 rfl ?_
    obtain rfl := Option.some.inj H
    exact go_ireturn dX8_versionsHeld_34 (tyI_int rfl)
  · replace H := (gm_ite H).2 c1
    refine go_iloadn dX8_versionsHeld_14 rfl ?_
    refine go_aloadn dX8_versionsHeld_15 rfl ?_
    refine go_iloadn dX8_versionsHeld_16 rfl ?_
    refine go_iload dX8_versionsHeld_17 rfl ?_
    obtain ⟨c2, x2, ex2, H⟩ := gm_rc H
    refine go_callV (vs := [aI v2, aI v4]) (stk := [aI v3]) (o1 := (some (aI x2), h)) mk_X8_held sv_X8_versionsHeld_41 cl_X8 rfl dX8_versionsHeld_19 c2 rfl rfl (Nat.le_of_ble_eq_true rfl) (Nat.le_of_ble_eq_true rfl) (ok_X8_held ex2) (show Go M_X8_versionsHeld (some (aI r), h) 22 [some (aA v0), some (aA v1), some (aI v2), some (aI v3), some (aI v4)] [aI x2, aI v3] h from ?_)
    obtain ⟨x3, ex3, H⟩ := bind_some H
    refine go_callS (vs := [aI x2]) (stk := [aI v3]) (o1 := (some (aI x3), h)) mk_J6_bitCount_0f7a4 ss_X8_versionsHeld_94 dX8_versionsHeld_22 rfl rfl (Nat.le_of_ble_eq_true rfl) (Nat.le_of_ble_eq_true rfl) (ok_J6_bitCount_0f7a4 ex3) (show Go M_X8_versionsHeld (some (aI r), h) 25 [some (aA v0), some (aA v1), some (aI v2), some (aI v3), some (aI v4)] [aI x3, aI v3] h from ?_)
    refine go_iadd dX8_versionsHeld_25 ?_
    refine go_istoren (loc2 := [some (aA v0), some (aA v1), some (aI v2), some (aI (v3 + x3)), some (aI v4)]) dX8_versionsHeld_26 rfl (by decide) rfl ?_
    refine go_iinc (v := (v4 + (1 : Int32))) (loc2 := [some (aA v0), some (aA v1), some (aI v2), some (aI (v3 + x3)), some (aI (v4 + (1 : Int32)))]) dX8_versionsHeld_27 rfl rfl (by decide) rfl ?_
    refine go_goto (tgt := 5) dX8_versionsHeld_30 (by decide) ?_
    exact Hk (v3 + x3) (v4 + (1 : Int32)) H
def l_X8_versionsHeld_5 (v0 : Nat) (v1 : Nat) (v2 : Int32) (h : Hp) (v3 : Int32) (v4 : Int32) : Option Int32 := loopK FUEL (fun (k : Int32 × Int32 → Option Int32) (s : Int32 × Int32) => b_X8_versionsHeld_5 v0 v1 v2 h (fun v3q v4q => k (v3q, v4q)) s.1 s.2) (v3, v4)
theorem okl_X8_versionsHeld_5 {r : Int32} (v0 : Nat) (v1 : Nat) (v2 : Int32) (h : Hp) (v3 : Int32) (v4 : Int32) (H : l_X8_versionsHeld_5 v0 v1 v2 h v3 v4 = some r) : Go M_X8_versionsHeld (some (aI r), h) 5 [some (aA v0), some (aA v1), some (aI v2), some (aI v3), some (aI v4)] [] h := by
  unfold l_X8_versionsHeld_5 at H
  exact go_loop (σ := Int32 × Int32) (body := (fun (k : Int32 × Int32 → Option Int32) (s : Int32 × Int32) => b_X8_versionsHeld_5 v0 v1 v2 h (fun v3q v4q => k (v3q, v4q)) s.1 s.2)) (fun s => [some (aA v0), some (aA v1), some (aI v2), some (aI s.1), some (aI s.2)]) (fun s => h) (fun k s Hk H => okb_X8_versionsHeld_5 v0 v1 v2 h (fun v3q v4q => k (v3q, v4q)) s.1 s.2  (fun v3q v4q H => Hk (v3q, v4q) H) H) FUEL (v3, v4) H
def m_X8_versionsHeld (v0 : Nat) (v1 : Nat) (v2 : Int32) (h : Hp) : Option Int32 :=
  l_X8_versionsHeld_5 v0 v1 v2 h (0 : Int32) (0 : Int32)
set_option maxRecDepth 20000 in
theorem ok_X8_versionsHeld {r : Int32} {v0 : Nat} {v1 : Nat} {v2 : Int32} {h : Hp} (H : m_X8_versionsHeld v0 v1 v2 h = some r) : Ev M_X8_versionsHeld [aA v0, aA v1, aI v2] h (some (aI r), h) := by
  show Go M_X8_versionsHeld (some (aI r), h) 0 [some (aA v0), some (aA v1), some (aI v2), none, none] [] h
  unfold m_X8_versionsHeld at H
  refine go_iconst (v := (0 : Int32)) dX8_versionsHeld_0 rfl ?_
  refine go_istoren (loc2 := [some (aA v0), some (aA v1), some (aI v2), some (aI (0 : Int32)), none]) dX8_versionsHeld_1 rfl (by decide) rfl ?_
  refine go_iconst (v := (0 : Int32)) dX8_versionsHeld_2 rfl ?_
  refine go_istore (loc2 := [some (aA v0), some (aA v1), some (aI v2), some (aI (0 : Int32)), some (aI (0 : Int32))]) dX8_versionsHeld_3 (by decide) rfl ?_
  exact okl_X8_versionsHeld_5 v0 v1 v2 h (0 : Int32) (0 : Int32) H
/-! X8_latestHeld -/
def m_X8_latestHeld (v0 : Nat) (v1 : Nat) (v2 : Int32) (v3 : Int32) (h : Hp) : Option Int32 :=
  (rc h v0 8 (m_X8_held v0 v2 v3 h)).bind fun x1 => (rc h v1 1 (m_X0_versionsOf v1 v3 h)).bind fun x2 => (m_X5_bit x1 (x2 - (1 : Int32)) h).bind fun x3 => some x3
set_option maxRecDepth 20000 in
theorem ok_X8_latestHeld {r : Int32} {v0 : Nat} {v1 : Nat} {v2 : Int32} {v3 : Int32} {h : Hp} (H : m_X8_latestHeld v0 v1 v2 v3 h = some r) : Ev M_X8_latestHeld [aA v0, aA v1, aI v2, aI v3] h (some (aI r), h) := by
  show Go M_X8_latestHeld (some (aI r), h) 0 [some (aA v0), some (aA v1), some (aI v2), some (aI v3)] [] h
  unfold m_X8_latestHeld at H
  refine go_aloadn dX8_latestHeld_0 rfl ?_
  refine go_iloadn dX8_latestHeld_1 rfl ?_
  refine go_iloadn dX8_latestHeld_2 rfl ?_
  obtain ⟨c1, x1, ex1, H⟩ := gm_rc H
  refine go_callV (vs := [aI v2, aI v3]) (stk := []) (o1 := (some (aI x1), h)) mk_X8_held sv_X8_latestHeld_41 cl_X8 rfl dX8_latestHeld_3 c1 rfl rfl (Nat.le_of_ble_eq_true rfl) (Nat.le_of_ble_eq_true rfl) (ok_X8_held ex1) (show Go M_X8_latestHeld (some (aI r), h) 6 [some (aA v0), some (aA v1), some (aI v2), some (aI v3)] [aI x1] h from ?_)
  refine go_aloadn dX8_latestHeld_6 rfl ?_
  refine go_iloadn dX8_latestHeld_7 rfl ?_
  obtain ⟨c2, x2, ex2, H⟩ := gm_rc H
  refine go_callV (vs := [aI v3]) (stk := [aI x1]) (o1 := (some (aI x2), h)) mk_X0_versionsOf sv_X8_latestHeld_54 cl_X0 rfl dX8_latestHeld_8 c2 rfl rfl (Nat.le_of_ble_eq_true rfl) (Nat.le_of_ble_eq_true rfl) (ok_X0_versionsOf ex2) (show Go M_X8_latestHeld (some (aI r), h) 11 [some (aA v0), some (aA v1), some (aI v2), some (aI v3)] [aI x2, aI x1] h from ?_)
  refine go_iconst (v := (1 : Int32)) dX8_latestHeld_11 rfl ?_
  refine go_isub dX8_latestHeld_12 ?_
  obtain ⟨x3, ex3, H⟩ := bind_some H
  refine go_callS (vs := [aI x1, aI (x2 - (1 : Int32))]) (stk := []) (o1 := (some (aI x3), h)) mk_X5_bit ss_X8_latestHeld_102 dX8_latestHeld_13 rfl rfl (Nat.le_of_ble_eq_true rfl) (Nat.le_of_ble_eq_true rfl) (ok_X5_bit ex3) (show Go M_X8_latestHeld (some (aI r), h) 16 [some (aA v0), some (aA v1), some (aI v2), some (aI v3)] [aI x3] h from ?_)
  obtain rfl := Option.some.inj H
  exact go_ireturn dX8_latestHeld_16 (tyI_int rfl)
/-! X8_isAhead -/
def j_X8_isAhead_85  (s0 : Int32) (h : Hp) : Option Int32 :=
  (zb s0).bind fun x1 => some x1
set_option maxRecDepth 20000 in
theorem okj_X8_isAhead_85 {r : Int32}  (s0 : Int32) (h : Hp) (H : j_X8_isAhead_85 s0 h = some r) : Go M_X8_isAhead (some (aI r), h) 85 [none, none, none, none, none, none, none] [aI s0] h := by
  unfold j_X8_isAhead_85 at H
  obtain ⟨hz, H⟩ := gm_zb H
  obtain rfl := Option.some.inj H
  exact go_ireturn (x := s0) dX8_isAhead_85 (tyI_bool rfl hz)
def j_X8_isAhead_37  (s0 : Int32) (h : Hp) : Option Int32 :=
  (zb s0).bind fun x1 => some x1
set_option maxRecDepth 20000 in
theorem okj_X8_isAhead_37 {r : Int32}  (s0 : Int32) (h : Hp) (H : j_X8_isAhead_37 s0 h = some r) : Go M_X8_isAhead (some (aI r), h) 37 [none, none, none, none, none, none, none] [aI s0] h := by
  unfold j_X8_isAhead_37 at H
  obtain ⟨hz, H⟩ := gm_zb H
  obtain rfl := Option.some.inj H
  exact go_ireturn (x := s0) dX8_isAhead_37 (tyI_bool rfl hz)
def m_X8_isAhead (v0 : Nat) (v1 : Nat) (v2 : Int32) (v3 : Int32) (v4 : Int32) (h : Hp) : Option Int32 :=
  (rc h v0 8 (m_X8_held v0 v2 v3 h)).bind fun x1 => (m_J6_bitCount_0f7a4 x1 h).bind fun x2 => (rc h v0 8 (m_X8_held v0 v2 v4 h)).bind fun x3 => (m_J6_bitCount_0f7a4 x3 h).bind fun x4 => if (x2 - x4) = 0 then ((rc h v0 8 (m_X8_latestHeld v0 v1 v2 v3 h)).bind fun x5 => (rc h v0 8 (m_X8_latestHeld v0 v1 v2 v4 h)).bind fun x6 => j_X8_isAhead_85 (if (x5 - x6) = 0 then (if v4 ≤ v3 then (0 : Int32) else (1 : Int32)) else (if (x5 - x6) ≤ 0 then (0 : Int32) else (1 : Int32))) h) else j_X8_isAhead_37 (if (x2 - x4) ≤ 0 then (0 : Int32) else (1 : Int32)) h
set_option maxRecDepth 20000 in
theorem ok_X8_isAhead {r : Int32} {v0 : Nat} {v1 : Nat} {v2 : Int32} {v3 : Int32} {v4 : Int32} {h : Hp} (H : m_X8_isAhead v0 v1 v2 v3 v4 h = some r) : Ev M_X8_isAhead [aA v0, aA v1, aI v2, aI v3, aI v4] h (some (aI r), h) := by
  show Go M_X8_isAhead (some (aI r), h) 0 [some (aA v0), some (aA v1), some (aI v2), some (aI v3), some (aI v4), none, none] [] h
  unfold m_X8_isAhead at H
  refine go_aloadn dX8_isAhead_0 rfl ?_
  refine go_iloadn dX8_isAhead_1 rfl ?_
  refine go_iloadn dX8_isAhead_2 rfl ?_
  obtain ⟨c1, x1, ex1, H⟩ := gm_rc H
  refine go_callV (vs := [aI v2, aI v3]) (stk := []) (o1 := (some (aI x1), h)) mk_X8_held sv_X8_isAhead_41 cl_X8 rfl dX8_isAhead_3 c1 rfl rfl (Nat.le_of_ble_eq_true rfl) (Nat.le_of_ble_eq_true rfl) (ok_X8_held ex1) (show Go M_X8_isAhead (some (aI r), h) 6 [some (aA v0), some (aA v1), some (aI v2), some (aI v3), some (aI v4), none, none] [aI x1] h from ?_)
  obtain ⟨x2, ex2, H⟩ := bind_some H
  refine go_callS (vs := [aI x1]) (stk := []) (o1 := (some (aI x2), h)) mk_J6_bitCount_0f7a4 ss_X8_isAhead_94 dX8_isAhead_6 rfl rfl (Nat.le_of_ble_eq_true rfl) (Nat.le_of_ble_eq_true rfl) (ok_J6_bitCount_0f7a4 ex2) (show Go M_X8_isAhead (some (aI r), h) 9 [some (aA v0), some (aA v1), some (aI v2), some (aI v3), some (aI v4), none, none] [aI x2] h from ?_)
  refine go_aloadn dX8_isAhead_9 rfl ?_
  refine go_iloadn dX8_isAhead_10 rfl ?_
  refine go_iload dX8_isAhead_11 rfl ?_
  obtain ⟨c3, x3, ex3, H⟩ := gm_rc H
  refine go_callV (vs := [aI v2, aI v4]) (stk := [aI x2]) (o1 := (some (aI x3), h)) mk_X8_held sv_X8_isAhead_41 cl_X8 rfl dX8_isAhead_13 c3 rfl rfl (Nat.le_of_ble_eq_true rfl) (Nat.le_of_ble_eq_true rfl) (ok_X8_held ex3) (show Go M_X8_isAhead (some (aI r), h) 16 [some (aA v0), some (aA v1), some (aI v2), some (aI v3), some (aI v4), none, none] [aI x3, aI x2] h from ?_)
  obtain ⟨x4, ex4, H⟩ := bind_some H
  refine go_callS (vs := [aI x3]) (stk := [aI x2]) (o1 := (some (aI x4), h)) mk_J6_bitCount_0f7a4 ss_X8_isAhead_94 dX8_isAhead_16 rfl rfl (Nat.le_of_ble_eq_true rfl) (Nat.le_of_ble_eq_true rfl) (ok_J6_bitCount_0f7a4 ex4) (show Go M_X8_isAhead (some (aI r), h) 19 [some (aA v0), some (aA v1), some (aI v2), some (aI v3), some (aI v4), none, none] [aI x4, aI x2] h from ?_)
  refine go_isub dX8_isAhead_19 ?_
  refine go_istore (loc2 := [some (aA v0), some (aA v1), some (aI v2), some (aI v3), some (aI v4), some (aI (x2 - x4)), none]) dX8_isAhead_20 (by decide) rfl ?_
  refine go_iload dX8_isAhead_22 rfl ?_
  refine go_if_eq (tgt := 38) dX8_isAhead_24 (by decide) (fun c5 => ?_) (fun c5 => ?_)
  · replace H := (gm_ite H).1 c5
    refine go_aloadn dX8_isAhead_38 rfl ?_
    refine go_aloadn dX8_isAhead_39 rfl ?_
    refine go_iloadn dX8_isAhead_40 rfl ?_
    refine go_iloadn dX8_isAhead_41 rfl ?_
    obtain ⟨c6, x5, ex5, H⟩ := gm_rc H
    refine go_callV (vs := [aA v1, aI v2, aI v3]) (stk := []) (o1 := (some (aI x5), h)) mk_X8_latestHeld sv_X8_isAhead_121 cl_X8 rfl dX8_isAhead_42 c6 rfl rfl (Nat.le_of_ble_eq_true rfl) (Nat.le_of_ble_eq_true rfl) (ok_X8_latestHeld ex5) (show Go M_X8_isAhead (some (aI r), h) 45 [some (aA v0), some (aA v1), some (aI v2), some (aI v3), some (aI v4), some (aI (x2 - x4)), none] [aI x5] h from ?_)
    refine go_aloadn dX8_isAhead_45 rfl ?_
    refine go_aloadn dX8_isAhead_46 rfl ?_
    refine go_iloadn dX8_isAhead_47 rfl ?_
    refine go_iload dX8_isAhead_48 rfl ?_
    obtain ⟨c7, x6, ex6, H⟩ := gm_rc H
    refine go_callV (vs := [aA v1, aI v2, aI v4]) (stk := [aI x5]) (o1 := (some (aI x6), h)) mk_X8_latestHeld sv_X8_isAhead_121 cl_X8 rfl dX8_isAhead_50 c7 rfl rfl (Nat.le_of_ble_eq_true rfl) (Nat.le_of_ble_eq_true rfl) (ok_X8_latestHeld ex6) (show Go M_X8_isAhead (some (aI r), h) 53 [some (aA v0), some (aA v1), some (aI v2), some (aI v3), some (aI v4), some (aI (x2 - x4)), none] [aI x6, aI x5] h from ?_)
    refine go_isub dX8_isAhead_53 ?_
    refine go_istore (loc2 := [some (aA v0), some (aA v1), some (aI v2), some (aI v3), some (aI v4), some (aI (x2 - x4)), some (aI (x5 - x6))]) dX8_isAhead_54 (by decide) rfl ?_
    refine go_iload dX8_isAhead_56 rfl ?_
    refine go_if_eq (tgt := 74) dX8_isAhead_58 (by decide) (fun c8 => ?_) (fun c8 => ?_)
    · rw [if_pos c8] at H
      refine go_iloadn dX8_isAhead_74 rfl ?_
      refine go_iload dX8_isAhead_75 rfl ?_
      refine go_icmp_ge (tgt := 84) dX8_isAhead_77 (by decide) (fun c9 => ?_) (fun c9 => ?_)
      · rw [if_pos c9] at H
        refine go_iconst (v := (0 : Int32)) dX8_isAhead_84 rfl ?_
        refine go_mask [false, false, false, false, false, false, false] (loc' := [none, none, none, none, none, none, none]) rfl ?_
        exact okj_X8_isAhead_85 (0 : Int32) h  H
      · rw [if_neg c9] at H
        refine go_iconst (v := (1 : Int32)) dX8_isAhead_80 rfl ?_
        refine go_goto (tgt := 85) dX8_isAhead_81 (by decide) ?_
        refine go_mask [false, false, false, false, false, false, false] (loc' := [none, none, none, none, none, none, none]) rfl ?_
        exact okj_X8_isAhead_85 (1 : Int32) h  H
    · rw [if_neg c8] at H
      refine go_iload dX8_isAhead_61 rfl ?_
      refine go_if_le (tgt := 70) dX8_isAhead_63 (by decide) (fun c10 => ?_) (fun c10 => ?_)
      · rw [if_pos c10] at H
        refine go_iconst (v := (0 : Int32)) dX8_isAhead_70 rfl ?_
        refine go_goto (tgt := 85) dX8_isAhead_71 (by decide) ?_
        refine go_mask [false, false, false, false, false, false, false] (loc' := [none, none, none, none, none, none, none]) rfl ?_
        exact okj_X8_isAhead_85 (0 : Int32) h  H
      · rw [if_neg c10] at H
        refine go_iconst (v := (1 : Int32)) dX8_isAhead_66 rfl ?_
        refine go_goto (tgt := 85) dX8_isAhead_67 (by decide) ?_
        refine go_mask [false, false, false, false, false, false, false] (loc' := [none, none, none, none, none, none, none]) rfl ?_
        exact okj_X8_isAhead_85 (1 : Int32) h  H
  · replace H := (gm_ite H).2 c5
    refine go_iload dX8_isAhead_27 rfl ?_
    refine go_if_le (tgt := 36) dX8_isAhead_29 (by decide) (fun c11 => ?_) (fun c11 => ?_)
    · rw [if_pos c11] at H
      refine go_iconst (v := (0 : Int32)) dX8_isAhead_36 rfl ?_
      refine go_mask [false, false, false, false, false, false, false] (loc' := [none, none, none, none, none, none, none]) rfl ?_
      exact okj_X8_isAhead_37 (0 : Int32) h  H
    · rw [if_neg c11] at H
      refine go_iconst (v := (1 : Int32)) dX8_isAhead_32 rfl ?_
      refine go_goto (tgt := 37) dX8_isAhead_33 (by decide) ?_
      refine go_mask [false, false, false, false, false, false, false] (loc' := [none, none, none, none, none, none, none]) rfl ?_
      exact okj_X8_isAhead_37 (1 : Int32) h  H
/-! X8_ranked -/
def j_X8_ranked_54 (v0 : Nat) (v1 : Nat) (v2 : Int32) (v3 : Int32) (v4 : Int32) (v6 : Int32) (s0 : Int32) (s1 : Int32) (h : Hp) (K63 : Int32 → Option Int32) (k : Int32 → Int32 → Option Int32) : Option Int32 :=
  k (s0 + s1) (v6 + (1 : Int32))
set_option maxRecDepth 20000 in
theorem okj_X8_ranked_54 {r : Int32} (v0 : Nat) (v1 : Nat) (v2 : Int32) (v3 : Int32) (v4 : Int32) (v6 : Int32) (s0 : Int32) (s1 : Int32) (h : Hp) (K63 : Int32 → Option Int32) (k : Int32 → Int32 → Option Int32) (HK63 : ∀ (v5q : Int32) , K63 v5q = some r → Go M_X8_ranked (some (aI r), h) 63 [some (aA v0), some (aA v1), some (aI v2), some (aI v3), some (aI v4), some (aI v5q), none] [] h) (Hk : ∀ (v5q : Int32) (v6q : Int32), k v5q v6q = some r → Go M_X8_ranked (some (aI r), h) 18 [some (aA v0), some (aA v1), some (aI v2), some (aI v3), some (aI v4), some (aI v5q), some (aI v6q)] [] h) (H : j_X8_ranked_54 v0 v1 v2 v3 v4 v6 s0 s1 h K63 k = some r) : Go M_X8_ranked (some (aI r), h) 54 [some (aA v0), some (aA v1), some (aI v2), some (aI v3), some (aI v4), none, some (aI v6)] [aI s1, aI s0] h := by
  unfold j_X8_ranked_54 at H
  refine go_iadd dX8_ranked_54 ?_
  refine go_istore (loc2 := [some (aA v0), some (aA v1), some (aI v2), some (aI v3), some (aI v4), some (aI (s0 + s1)), some (aI v6)]) dX8_ranked_55 (by decide) rfl ?_
  refine go_iinc (v := (v6 + (1 : Int32))) (loc2 := [some (aA v0), some (aA v1), some (aI v2), some (aI v3), some (aI v4), some (aI (s0 + s1)), some (aI (v6 + (1 : Int32)))]) dX8_ranked_57 rfl rfl (by decide) rfl ?_
  refine go_goto (tgt := 18) dX8_ranked_60 (by decide) ?_
  exact Hk (s0 + s1) (v6 + (1 : Int32)) H
def b_X8_ranked_18 (v0 : Nat) (v1 : Nat) (v2 : Int32) (v3 : Int32) (v4 : Int32) (h : Hp) (K63 : Int32 → Option Int32) (k : Int32 → Int32 → Option Int32) (v5 : Int32) (v6 : Int32) : Option Int32 :=
  (gfI h v1 1 0).bind fun x1 => if x1 ≤ v6 then K63 v5 else if v6 = v4 then j_X8_ranked_54 v0 v1 v2 v3 v4 v6 v5 (0 : Int32) h K63 k else (rc h v0 8 (m_X8_isAhead v0 v1 v2 v6 v4 h)).bind fun x2 => j_X8_ranked_54 v0 v1 v2 v3 v4 v6 v5 (if x2 = 0 then (0 : Int32) else (1 : Int32)) h K63 k
set_option maxRecDepth 20000 in
theorem okb_X8_ranked_18 {r : Int32} (v0 : Nat) (v1 : Nat) (v2 : Int32) (v3 : Int32) (v4 : Int32) (h : Hp) (K63 : Int32 → Option Int32) (k : Int32 → Int32 → Option Int32) (v5 : Int32) (v6 : Int32) (HK63 : ∀ (v5q : Int32) , K63 v5q = some r → Go M_X8_ranked (some (aI r), h) 63 [some (aA v0), some (aA v1), some (aI v2), some (aI v3), some (aI v4), some (aI v5q), none] [] h) (Hk : ∀ (v5q : Int32) (v6q : Int32), k v5q v6q = some r → Go M_X8_ranked (some (aI r), h) 18 [some (aA v0), some (aA v1), some (aI v2), some (aI v3), some (aI v4), some (aI v5q), some (aI v6q)] [] h) (H : b_X8_ranked_18 v0 v1 v2 v3 v4 h K63 k v5 v6 = some r) : Go M_X8_ranked (some (aI r), h) 18 [some (aA v0), some (aA v1), some (aI v2), some (aI v3), some (aI v4), some (aI v5), some (aI v6)] [] h := by
  unfold b_X8_ranked_18 at H
  refine go_iload dX8_ranked_18 rfl ?_
  refine go_aloadn dX8_ranked_20 rfl ?_
  refine gm_getI fd_X8_19 dX8_ranked_21 H (fun x1 H => ?_)
  refine go_icmp_ge (tgt := 63) dX8_ranked_24 (by decide) (fun c1 => ?_) (fun c1 => ?_)
  · replace H := (gm_ite H).1 c1
    refine go_mask [true, true, true, true, true, true, false] (loc' := [some (aA v0), some (aA v1), some (aI v2), some (aI v3), some (aI v4), some (aI v5), none]) rfl ?_
    exact HK63 v5 H
  · replace H := (gm_ite H).2 c1
    refine go_iload dX8_ranked_27 rfl ?_
    refine go_iload dX8_ranked_29 rfl ?_
    refine go_iload dX8_ranked_31 rfl ?_
    refine go_icmp_eq (tgt := 53) dX8_ranked_33 (by decide) (fun c2 => ?_) (fun c2 => ?_)
    · replace H := (gm_ite H).1 c2
      refine go_iconst (v := (0 : Int32)) dX8_ranked_53 rfl ?_
      refine go_mask [true, true, true, true, true, false, true] (loc' := [some (aA v0), some (aA v1), some (aI v2), some (aI v3), some (aI v4), none, some (aI v6)]) rfl ?_
      exact okj_X8_ranked_54 v0 v1 v2 v3 v4 v6 v5 (0 : Int32) h K63 k HK63 Hk H
    · replace H := (gm_ite H).2 c2
      refine go_aloadn dX8_ranked_36 rfl ?_
      refine go_aloadn dX8_ranked_37 rfl ?_
      refine go_iloadn dX8_ranked_38 rfl ?_
      refine go_iload dX8_ranked_39 rfl ?_
      refine go_iload dX8_ranked_41 rfl ?_
      obtain ⟨c3, x2, ex2, H⟩ := gm_rc H
      refine go_callV (vs := [aA v1, aI v2, aI v6, aI v4]) (stk := [aI v5]) (o1 := (some (aI x2), h)) mk_X8_isAhead sv_X8_ranked_117 cl_X8 rfl dX8_ranked_43 c3 rfl rfl (Nat.le_of_ble_eq_true rfl) (Nat.le_of_ble_eq_true rfl) (ok_X8_isAhead ex2) (show Go M_X8_ranked (some (aI r), h) 46 [some (aA v0), some (aA v1), some (aI v2), some (aI v3), some (aI v4), some (aI v5), some (aI v6)] [aI x2, aI v5] h from ?_)
      refine go_if_eq (tgt := 53) dX8_ranked_46 (by decide) (fun c4 => ?_) (fun c4 => ?_)
      · rw [if_pos c4] at H
        refine go_iconst (v := (0 : Int32)) dX8_ranked_53 rfl ?_
        refine go_mask [true, true, true, true, true, false, true] (loc' := [some (aA v0), some (aA v1), some (aI v2), some (aI v3), some (aI v4), none, some (aI v6)]) rfl ?_
        exact okj_X8_ranked_54 v0 v1 v2 v3 v4 v6 v5 (0 : Int32) h K63 k HK63 Hk H
      · rw [if_neg c4] at H
        refine go_iconst (v := (1 : Int32)) dX8_ranked_49 rfl ?_
        refine go_goto (tgt := 54) dX8_ranked_50 (by decide) ?_
        refine go_mask [true, true, true, true, true, false, true] (loc' := [some (aA v0), some (aA v1), some (aI v2), some (aI v3), some (aI v4), none, some (aI v6)]) rfl ?_
        exact okj_X8_ranked_54 v0 v1 v2 v3 v4 v6 v5 (1 : Int32) h K63 k HK63 Hk H
def l_X8_ranked_18 (v0 : Nat) (v1 : Nat) (v2 : Int32) (v3 : Int32) (v4 : Int32) (h : Hp) (K63 : Int32 → Option Int32) (v5 : Int32) (v6 : Int32) : Option Int32 := loopK FUEL (fun (k : Int32 × Int32 → Option Int32) (s : Int32 × Int32) => b_X8_ranked_18 v0 v1 v2 v3 v4 h K63 (fun v5q v6q => k (v5q, v6q)) s.1 s.2) (v5, v6)
theorem okl_X8_ranked_18 {r : Int32} (v0 : Nat) (v1 : Nat) (v2 : Int32) (v3 : Int32) (v4 : Int32) (h : Hp) (K63 : Int32 → Option Int32) (v5 : Int32) (v6 : Int32) (HK63 : ∀ (v5q : Int32) , K63 v5q = some r → Go M_X8_ranked (some (aI r), h) 63 [some (aA v0), some (aA v1), some (aI v2), some (aI v3), some (aI v4), some (aI v5q), none] [] h) (H : l_X8_ranked_18 v0 v1 v2 v3 v4 h K63 v5 v6 = some r) : Go M_X8_ranked (some (aI r), h) 18 [some (aA v0), some (aA v1), some (aI v2), some (aI v3), some (aI v4), some (aI v5), some (aI v6)] [] h := by
  unfold l_X8_ranked_18 at H
  exact go_loop (σ := Int32 × Int32) (body := (fun (k : Int32 × Int32 → Option Int32) (s : Int32 × Int32) => b_X8_ranked_18 v0 v1 v2 v3 v4 h K63 (fun v5q v6q => k (v5q, v6q)) s.1 s.2)) (fun s => [some (aA v0), some (aA v1), some (aI v2), some (aI v3), some (aI v4), some (aI s.1), some (aI s.2)]) (fun s => h) (fun k s Hk H => okb_X8_ranked_18 v0 v1 v2 v3 v4 h K63 (fun v5q v6q => k (v5q, v6q)) s.1 s.2 HK63 (fun v5q v6q H => Hk (v5q, v6q) H) H) FUEL (v5, v6) H
def j_X8_ranked_63 (v0 : Nat) (v1 : Nat) (v2 : Int32) (v3 : Int32) (v4 : Int32) (v5 : Int32)  (h : Hp) (k : Int32 → Option Int32) : Option Int32 :=
  if ¬ v5 = v3 then (k (v4 + (1 : Int32))) else some v4
set_option maxRecDepth 20000 in
theorem okj_X8_ranked_63 {r : Int32} (v0 : Nat) (v1 : Nat) (v2 : Int32) (v3 : Int32) (v4 : Int32) (v5 : Int32)  (h : Hp) (k : Int32 → Option Int32) (Hk : ∀ (v4q : Int32), k v4q = some r → Go M_X8_ranked (some (aI r), h) 3 [some (aA v0), some (aA v1), some (aI v2), some (aI v3), some (aI v4q), none, none] [] h) (H : j_X8_ranked_63 v0 v1 v2 v3 v4 v5 h k = some r) : Go M_X8_ranked (some (aI r), h) 63 [some (aA v0), some (aA v1), some (aI v2), some (aI v3), some (aI v4), some (aI v5), none] [] h := by
  unfold j_X8_ranked_63 at H
  refine go_iload dX8_ranked_63 rfl ?_
  refine go_iloadn dX8_ranked_65 rfl ?_
  refine go_icmp_ne (tgt := 72) dX8_ranked_66 (by decide) (fun c1 => ?_) (fun c1 => ?_)
  · replace H := (gm_ite H).1 c1
    refine go_iinc (v := (v4 + (1 : Int32))) (loc2 := [some (aA v0), some (aA v1), some (aI v2), some (aI v3), some (aI (v4 + (1 : Int32))), some (aI v5), none]) dX8_ranked_72 rfl rfl (by decide) rfl ?_
    refine go_goto (tgt := 3) dX8_ranked_75 (by decide) ?_
    refine go_mask [true, true, true, true, true, false, false] (loc' := [some (aA v0), some (aA v1), some (aI v2), some (aI v3), some (aI (v4 + (1 : Int32))), none, none]) rfl ?_
    exact Hk (v4 + (1 : Int32)) H
  · replace H := (gm_ite H).2 c1
    refine go_iload dX8_ranked_69 rfl ?_
    obtain rfl := Option.some.inj H
    exact go_ireturn dX8_ranked_71 (tyI_int rfl)
def b_X8_ranked_3 (v0 : Nat) (v1 : Nat) (v2 : Int32) (v3 : Int32) (h : Hp) (k : Int32 → Option Int32) (v4 : Int32) : Option Int32 :=
  (gfI h v1 1 0).bind fun x1 => if x1 ≤ v4 then (some (-1 : Int32)) else l_X8_ranked_18 v0 v1 v2 v3 v4 h (fun a2_5 => j_X8_ranked_63 v0 v1 v2 v3 v4 a2_5 h k) (0 : Int32) (0 : Int32)
set_option maxRecDepth 20000 in
theorem okb_X8_ranked_3 {r : Int32} (v0 : Nat) (v1 : Nat) (v2 : Int32) (v3 : Int32) (h : Hp) (k : Int32 → Option Int32) (v4 : Int32) (Hk : ∀ (v4q : Int32), k v4q = some r → Go M_X8_ranked (some (aI r), h) 3 [some (aA v0), some (aA v1), some (aI v2), some (aI v3), some (aI v4q), none, none] [] h) (H : b_X8_ranked_3 v0 v1 v2 v3 h k v4 = some r) : Go M_X8_ranked (some (aI r), h) 3 [some (aA v0), some (aA v1), some (aI v2), some (aI v3), some (aI v4), none, none] [] h := by
  unfold b_X8_ranked_3 at H
  refine go_iload dX8_ranked_3 rfl ?_
  refine go_aloadn dX8_ranked_5 rfl ?_
  refine gm_getI fd_X8_19 dX8_ranked_6 H (fun x1 H => ?_)
  refine go_icmp_ge (tgt := 78) dX8_ranked_9 (by decide) (fun c1 => ?_) (fun c1 => ?_)
  · replace H := (gm_ite H).1 c1
    refine go_iconst (v := (-1 : Int32)) dX8_ranked_78 rfl ?_
    obtain rfl := Option.some.inj H
    exact go_ireturn dX8_ranked_79 (tyI_int rfl)
  · replace H := (gm_ite H).2 c1
    refine go_iconst (v := (0 : Int32)) dX8_ranked_12 rfl ?_
    refine go_istore (loc2 := [some (aA v0), some (aA v1), some (aI v2), some (aI v3), some (aI v4), some (aI (0 : Int32)), none]) dX8_ranked_13 (by decide) rfl ?_
    refine go_iconst (v := (0 : Int32)) dX8_ranked_15 rfl ?_
    refine go_istore (loc2 := [some (aA v0), some (aA v1), some (aI v2), some (aI v3), some (aI v4), some (aI (0 : Int32)), some (aI (0 : Int32))]) dX8_ranked_16 (by decide) rfl ?_
    refine okl_X8_ranked_18 v0 v1 v2 v3 v4 h (fun a2_5 => j_X8_ranked_63 v0 v1 v2 v3 v4 a2_5 h k) (0 : Int32) (0 : Int32) ?_ H
    · intro a2_5 H
      exact okj_X8_ranked_63 v0 v1 v2 v3 v4 a2_5 h k Hk H
def l_X8_ranked_3 (v0 : Nat) (v1 : Nat) (v2 : Int32) (v3 : Int32) (h : Hp) (v4 : Int32) : Option Int32 := loopK FUEL (fun (k : Int32 → Option Int32) (s : Int32) => b_X8_ranked_3 v0 v1 v2 v3 h (fun v4q => k v4q) s) v4
theorem okl_X8_ranked_3 {r : Int32} (v0 : Nat) (v1 : Nat) (v2 : Int32) (v3 : Int32) (h : Hp) (v4 : Int32) (H : l_X8_ranked_3 v0 v1 v2 v3 h v4 = some r) : Go M_X8_ranked (some (aI r), h) 3 [some (aA v0), some (aA v1), some (aI v2), some (aI v3), some (aI v4), none, none] [] h := by
  unfold l_X8_ranked_3 at H
  exact go_loop (σ := Int32) (body := (fun (k : Int32 → Option Int32) (s : Int32) => b_X8_ranked_3 v0 v1 v2 v3 h (fun v4q => k v4q) s)) (fun s => [some (aA v0), some (aA v1), some (aI v2), some (aI v3), some (aI s), none, none]) (fun s => h) (fun k s Hk H => okb_X8_ranked_3 v0 v1 v2 v3 h (fun v4q => k v4q) s  (fun v4q H => Hk v4q H) H) FUEL v4 H
def m_X8_ranked (v0 : Nat) (v1 : Nat) (v2 : Int32) (v3 : Int32) (h : Hp) : Option Int32 :=
  l_X8_ranked_3 v0 v1 v2 v3 h (0 : Int32)
set_option maxRecDepth 20000 in
theorem ok_X8_ranked {r : Int32} {v0 : Nat} {v1 : Nat} {v2 : Int32} {v3 : Int32} {h : Hp} (H : m_X8_ranked v0 v1 v2 v3 h = some r) : Ev M_X8_ranked [aA v0, aA v1, aI v2, aI v3] h (some (aI r), h) := by
  show Go M_X8_ranked (some (aI r), h) 0 [some (aA v0), some (aA v1), some (aI v2), some (aI v3), none, none, none] [] h
  unfold m_X8_ranked at H
  refine go_iconst (v := (0 : Int32)) dX8_ranked_0 rfl ?_
  refine go_istore (loc2 := [some (aA v0), some (aA v1), some (aI v2), some (aI v3), some (aI (0 : Int32)), none, none]) dX8_ranked_1 (by decide) rfl ?_
  exact okl_X8_ranked_3 v0 v1 v2 v3 h (0 : Int32) H
/-! X8_changeAt -/
def j_X8_changeAt_38 (v0 : Nat) (v1 : Nat) (v2 : Int32) (v3 : Int32) (v4 : Int32) (v5 : Int32)  (h : Hp) (k : Int32 → Int32 → Option Int32) : Option Int32 :=
  k v4 (v5 + (1 : Int32))
set_option maxRecDepth 20000 in
theorem okj_X8_changeAt_38 {r : Int32} (v0 : Nat) (v1 : Nat) (v2 : Int32) (v3 : Int32) (v4 : Int32) (v5 : Int32)  (h : Hp) (k : Int32 → Int32 → Option Int32) (Hk : ∀ (v4q : Int32) (v5q : Int32), k v4q v5q = some r → Go M_X8_changeAt (some (aI r), h) 6 [some (aA v0), some (aA v1), some (aI v2), some (aI v3), some (aI v4q), some (aI v5q)] [] h) (H : j_X8_changeAt_38 v0 v1 v2 v3 v4 v5 h k = some r) : Go M_X8_changeAt (some (aI r), h) 38 [some (aA v0), some (aA v1), some (aI v2), some (aI v3), some (aI v4), some (aI v5)] [] h := by
  unfold j_X8_changeAt_38 at H
  refine go_iinc (v := (v5 + (1 : Int32))) (loc2 := [some (aA v0), some (aA v1), some (aI v2), some (aI v3), some (aI v4), some (aI (v5 + (1 : Int32)))]) dX8_changeAt_38 rfl rfl (by decide) rfl ?_
  refine go_goto (tgt := 6) dX8_changeAt_41 (by decide) ?_
  exact Hk v4 (v5 + (1 : Int32)) H
def b_X8_changeAt_6 (v0 : Nat) (v1 : Nat) (v2 : Int32) (v3 : Int32) (h : Hp) (k : Int32 → Int32 → Option Int32) (v4 : Int32) (v5 : Int32) : Option Int32 :=
  (rc h v1 1 (m_X0_versionsOfAll v1 h)).bind fun x1 => if x1 ≤ v5 then (some (-1 : Int32)) else (rc h v0 8 (m_X8_isChange v0 v1 v2 v5 h)).bind fun x2 => if x2 = 0 then j_X8_changeAt_38 v0 v1 v2 v3 v4 v5 h k else if ¬ v4 = v3 then (j_X8_changeAt_38 v0 v1 v2 v3 (v4 + (1 : Int32)) v5 h k) else some v5
set_option maxRecDepth 20000 in
theorem okb_X8_changeAt_6 {r : Int32} (v0 : Nat) (v1 : Nat) (v2 : Int32) (v3 : Int32) (h : Hp) (k : Int32 → Int32 → Option Int32) (v4 : Int32) (v5 : Int32) (Hk : ∀ (v4q : Int32) (v5q : Int32), k v4q v5q = some r → Go M_X8_changeAt (some (aI r), h) 6 [some (aA v0), some (aA v1), some (aI v2), some (aI v3), some (aI v4q), some (aI v5q)] [] h) (H : b_X8_changeAt_6 v0 v1 v2 v3 h k v4 v5 = some r) : Go M_X8_changeAt (some (aI r), h) 6 [some (aA v0), some (aA v1), some (aI v2), some (aI v3), some (aI v4), some (aI v5)] [] h := by
  unfold b_X8_changeAt_6 at H
  refine go_iload dX8_changeAt_6 rfl ?_
  refine go_aloadn dX8_changeAt_8 rfl ?_
  obtain ⟨c1, x1, ex1, H⟩ := gm_rc H
  refine go_callV (vs := []) (stk := [aI v5]) (o1 := (some (aI x1), h)) mk_X0_versionsOfAll sv_X8_changeAt_105 cl_X0 rfl dX8_changeAt_9 c1 rfl rfl (Nat.le_of_ble_eq_true rfl) (Nat.le_of_ble_eq_true rfl) (ok_X0_versionsOfAll ex1) (show Go M_X8_changeAt (some (aI r), h) 12 [some (aA v0), some (aA v1), some (aI v2), some (aI v3), some (aI v4), some (aI v5)] [aI x1, aI v5] h from ?_)
  refine go_icmp_ge (tgt := 44) dX8_changeAt_12 (by decide) (fun c2 => ?_) (fun c2 => ?_)
  · replace H := (gm_ite H).1 c2
    refine go_iconst (v := (-1 : Int32)) dX8_changeAt_44 rfl ?_
    obtain rfl := Option.some.inj H
    exact go_ireturn dX8_changeAt_45 (tyI_int rfl)
  · replace H := (gm_ite H).2 c2
    refine go_aloadn dX8_changeAt_15 rfl ?_
    refine go_aloadn dX8_changeAt_16 rfl ?_
    refine go_iloadn dX8_changeAt_17 rfl ?_
    refine go_iload dX8_changeAt_18 rfl ?_
    obtain ⟨c3, x2, ex2, H⟩ := gm_rc H
    refine go_callV (vs := [aA v1, aI v2, aI v5]) (stk := []) (o1 := (some (aI x2), h)) mk_X8_isChange sv_X8_changeAt_109 cl_X8 rfl dX8_changeAt_20 c3 rfl rfl (Nat.le_of_ble_eq_true rfl) (Nat.le_of_ble_eq_true rfl) (ok_X8_isChange ex2) (show Go M_X8_changeAt (some (aI r), h) 23 [some (aA v0), some (aA v1), some (aI v2), some (aI v3), some (aI v4), some (aI v5)] [aI x2] h from ?_)
    refine go_if_eq (tgt := 38) dX8_changeAt_23 (by decide) (fun c4 => ?_) (fun c4 => ?_)
    · replace H := (gm_ite H).1 c4
      exact okj_X8_changeAt_38 v0 v1 v2 v3 v4 v5 h k Hk H
    · replace H := (gm_ite H).2 c4
      refine go_iload dX8_changeAt_26 rfl ?_
      refine go_iloadn dX8_changeAt_28 rfl ?_
      refine go_icmp_ne (tgt := 35) dX8_changeAt_29 (by decide) (fun c5 => ?_) (fun c5 => ?_)
      · replace H := (gm_ite H).1 c5
        refine go_iinc (v := (v4 + (1 : Int32))) (loc2 := [some (aA v0), some (aA v1), some (aI v2), some (aI v3), some (aI (v4 + (1 : Int32))), some (aI v5)]) dX8_changeAt_35 rfl rfl (by decide) rfl ?_
        exact okj_X8_changeAt_38 v0 v1 v2 v3 (v4 + (1 : Int32)) v5 h k Hk H
      · replace H := (gm_ite H).2 c5
        refine go_iload dX8_changeAt_32 rfl ?_
        obtain rfl := Option.some.inj H
        exact go_ireturn dX8_changeAt_34 (tyI_int rfl)
def l_X8_changeAt_6 (v0 : Nat) (v1 : Nat) (v2 : Int32) (v3 : Int32) (h : Hp) (v4 : Int32) (v5 : Int32) : Option Int32 := loopK FUEL (fun (k : Int32 × Int32 → Option Int32) (s : Int32 × Int32) => b_X8_changeAt_6 v0 v1 v2 v3 h (fun v4q v5q => k (v4q, v5q)) s.1 s.2) (v4, v5)
theorem okl_X8_changeAt_6 {r : Int32} (v0 : Nat) (v1 : Nat) (v2 : Int32) (v3 : Int32) (h : Hp) (v4 : Int32) (v5 : Int32) (H : l_X8_changeAt_6 v0 v1 v2 v3 h v4 v5 = some r) : Go M_X8_changeAt (some (aI r), h) 6 [some (aA v0), some (aA v1), some (aI v2), some (aI v3), some (aI v4), some (aI v5)] [] h := by
  unfold l_X8_changeAt_6 at H
  exact go_loop (σ := Int32 × Int32) (body := (fun (k : Int32 × Int32 → Option Int32) (s : Int32 × Int32) => b_X8_changeAt_6 v0 v1 v2 v3 h (fun v4q v5q => k (v4q, v5q)) s.1 s.2)) (fun s => [some (aA v0), some (aA v1), some (aI v2), some (aI v3), some (aI s.1), some (aI s.2)]) (fun s => h) (fun k s Hk H => okb_X8_changeAt_6 v0 v1 v2 v3 h (fun v4q v5q => k (v4q, v5q)) s.1 s.2  (fun v4q v5q H => Hk (v4q, v5q) H) H) FUEL (v4, v5) H
def m_X8_changeAt (v0 : Nat) (v1 : Nat) (v2 : Int32) (v3 : Int32) (h : Hp) : Option Int32 :=
  l_X8_changeAt_6 v0 v1 v2 v3 h (0 : Int32) (0 : Int32)
set_option maxRecDepth 20000 in
theorem ok_X8_changeAt {r : Int32} {v0 : Nat} {v1 : Nat} {v2 : Int32} {v3 : Int32} {h : Hp} (H : m_X8_changeAt v0 v1 v2 v3 h = some r) : Ev M_X8_changeAt [aA v0, aA v1, aI v2, aI v3] h (some (aI r), h) := by
  show Go M_X8_changeAt (some (aI r), h) 0 [some (aA v0), some (aA v1), some (aI v2), some (aI v3), none, none] [] h
  unfold m_X8_changeAt at H
  refine go_iconst (v := (0 : Int32)) dX8_changeAt_0 rfl ?_
  refine go_istore (loc2 := [some (aA v0), some (aA v1), some (aI v2), some (aI v3), some (aI (0 : Int32)), none]) dX8_changeAt_1 (by decide) rfl ?_
  refine go_iconst (v := (0 : Int32)) dX8_changeAt_3 rfl ?_
  refine go_istore (loc2 := [some (aA v0), some (aA v1), some (aI v2), some (aI v3), some (aI (0 : Int32)), some (aI (0 : Int32))]) dX8_changeAt_4 (by decide) rfl ?_
  exact okl_X8_changeAt_6 v0 v1 v2 v3 h (0 : Int32) (0 : Int32) H
/-! X11_foundAt -/
def j_X11_foundAt_65  (s0 : Int32) (h : Hp) : Option Int32 :=
  some s0
set_option maxRecDepth 20000 in
theorem okj_X11_foundAt_65 {r : Int32}  (s0 : Int32) (h : Hp) (H : j_X11_foundAt_65 s0 h = some r) : Go M_X11_foundAt (some (aI r), h) 65 [none, none, none, none] [aI s0] h := by
  unfold j_X11_foundAt_65 at H
  obtain rfl := Option.some.inj H
  exact go_ireturn dX11_foundAt_65 (tyI_int rfl)
def m_X11_foundAt (v0 : Nat) (v1 : Nat) (v2 : Int32) (v3 : Int32) (h : Hp) : Option Int32 :=
  if (10 : Int32) ≤ v3 then (if (100 : Int32) ≤ v3 then (if (200 : Int32) ≤ v3 then ((gfR h v0 11 4).bind fun x1 => (rc h x1 8 (m_X8_changeAt x1 v1 v2 (v3 - (200 : Int32)) h)).bind fun x2 => j_X11_foundAt_65 x2 h) else (gfR h v0 11 4).bind fun x3 => (rc h x3 8 (m_X8_asOf x3 v1 v2 (v3 - (100 : Int32)) h)).bind fun x4 => j_X11_foundAt_65 x4 h) else (gfR h v0 11 4).bind fun x5 => (rc h x5 8 (m_X8_ranked x5 v1 v2 (v3 - (10 : Int32)) h)).bind fun x6 => some x6) else some (-1 : Int32)
set_option maxRecDepth 20000 in
theorem ok_X11_foundAt {r : Int32} {v0 : Nat} {v1 : Nat} {v2 : Int32} {v3 : Int32} {h : Hp} (H : m_X11_foundAt v0 v1 v2 v3 h = some r) : Ev M_X11_foundAt [aA v0, aA v1, aI v2, aI v3] h (some (aI r), h) := by
  show Go M_X11_foundAt (some (aI r), h) 0 [some (aA v0), some (aA v1), some (aI v2), some (aI v3)] [] h
  unfold m_X11_foundAt at H
  refine go_iloadn dX11_foundAt_0 rfl ?_
  refine go_bipush (v := (10 : Int32)) dX11_foundAt_1 rfl ?_
  refine go_icmp_ge (tgt := 8) dX11_foundAt_3 (by decide) (fun c1 => ?_) (fun c1 => ?_)
  · replace H := (gm_ite H).1 c1
    refine go_iloadn dX11_foundAt_8 rfl ?_
    refine go_bipush (v := (100 : Int32)) dX11_foundAt_9 rfl ?_
    refine go_icmp_ge (tgt := 28) dX11_foundAt_11 (by decide) (fun c2 => ?_) (fun c2 => ?_)
    · replace H := (gm_ite H).1 c2
      refine go_iloadn dX11_foundAt_28 rfl ?_
      refine go_sipush (v := (200 : Int32)) dX11_foundAt_29 rfl ?_
      refine go_icmp_ge (tgt := 51) dX11_foundAt_32 (by decide) (fun c3 => ?_) (fun c3 => ?_)
      · replace H := (gm_ite H).1 c3
        refine go_aloadn dX11_foundAt_51 rfl ?_
        refine gm_getR fd_X11_37 dX11_foundAt_52 H (fun x1 H => ?_)
        refine go_aloadn dX11_foundAt_55 rfl ?_
        refine go_iloadn dX11_foundAt_56 rfl ?_
        refine go_iloadn dX11_foundAt_57 rfl ?_
        refine go_sipush (v := (200 : Int32)) dX11_foundAt_58 rfl ?_
        refine go_isub dX11_foundAt_61 ?_
        obtain ⟨c4, x2, ex2, H⟩ := gm_rc H
        refine go_callV (vs := [aA v1, aI v2, aI (v3 - (200 : Int32))]) (stk := []) (o1 := (some (aI x2), h)) mk_X8_changeAt sv_X11_foundAt_292 cl_X8 rfl dX11_foundAt_62 c4 rfl rfl (Nat.le_of_ble_eq_true rfl) (Nat.le_of_ble_eq_true rfl) (ok_X8_changeAt ex2) (show Go M_X11_foundAt (some (aI r), h) 65 [some (aA v0), some (aA v1), some (aI v2), some (aI v3)] [aI x2] h from ?_)
        refine go_mask [false, false, false, false] (loc' := [none, none, none, none]) rfl ?_
        exact okj_X11_foundAt_65 x2 h  H
      · replace H := (gm_ite H).2 c3
        refine go_aloadn dX11_foundAt_35 rfl ?_
        refine gm_getR fd_X11_37 dX11_foundAt_36 H (fun x3 H => ?_)
        refine go_aloadn dX11_foundAt_39 rfl ?_
        refine go_iloadn dX11_foundAt_40 rfl ?_
        refine go_iloadn dX11_foundAt_41 rfl ?_
        refine go_bipush (v := (100 : Int32)) dX11_foundAt_42 rfl ?_
        refine go_isub dX11_foundAt_44 ?_
        obtain ⟨c5, x4, ex4, H⟩ := gm_rc H
        refine go_callV (vs := [aA v1, aI v2, aI (v3 - (100 : Int32))]) (stk := []) (o1 := (some (aI x4), h)) mk_X8_asOf sv_X11_foundAt_289 cl_X8 rfl dX11_foundAt_45 c5 rfl rfl (Nat.le_of_ble_eq_true rfl) (Nat.le_of_ble_eq_true rfl) (ok_X8_asOf ex4) (show Go M_X11_foundAt (some (aI r), h) 48 [some (aA v0), some (aA v1), some (aI v2), some (aI v3)] [aI x4] h from ?_)
        refine go_goto (tgt := 65) dX11_foundAt_48 (by decide) ?_
        refine go_mask [false, false, false, false] (loc' := [none, none, none, none]) rfl ?_
        exact okj_X11_foundAt_65 x4 h  H
    · replace H := (gm_ite H).2 c2
      refine go_aloadn dX11_foundAt_14 rfl ?_
      refine gm_getR fd_X11_37 dX11_foundAt_15 H (fun x5 H => ?_)
      refine go_aloadn dX11_foundAt_18 rfl ?_
      refine go_iloadn dX11_foundAt_19 rfl ?_
      refine go_iloadn dX11_foundAt_20 rfl ?_
      refine go_bipush (v := (10 : Int32)) dX11_foundAt_21 rfl ?_
      refine go_isub dX11_foundAt_23 ?_
      obtain ⟨c6, x6, ex6, H⟩ := gm_rc H
      refine go_callV (vs := [aA v1, aI v2, aI (v3 - (10 : Int32))]) (stk := []) (o1 := (some (aI x6), h)) mk_X8_ranked sv_X11_foundAt_286 cl_X8 rfl dX11_foundAt_24 c6 rfl rfl (Nat.le_of_ble_eq_true rfl) (Nat.le_of_ble_eq_true rfl) (ok_X8_ranked ex6) (show Go M_X11_foundAt (some (aI r), h) 27 [some (aA v0), some (aA v1), some (aI v2), some (aI v3)] [aI x6] h from ?_)
      obtain rfl := Option.some.inj H
      exact go_ireturn dX11_foundAt_27 (tyI_int rfl)
  · replace H := (gm_ite H).2 c1
    refine go_iconst (v := (-1 : Int32)) dX11_foundAt_6 rfl ?_
    obtain rfl := Option.some.inj H
    exact go_ireturn dX11_foundAt_7 (tyI_int rfl)
/-! X11_found -/
def m_X11_found (v0 : Nat) (v1 : Int32) (v2 : Int32) (v3 : Int32) (v4 : Int32) (h : Hp) : Option (Int32 × Hp) :=
  (gfR h v0 11 0).bind fun x1 => (rc h x1 9 (m_X9_archiveAt x1 v1 h)).bind fun x2 => (gfR h v0 11 0).bind fun x3 => (rc h x3 9 (m_X9_questionsAt x3 v2 h)).bind fun x4 => (nz x2).bind fun _ => if x2 = 0 then (some ((-1 : Int32), h)) else (nz x4).bind fun _ => if x4 = 0 then (some ((-1 : Int32), h)) else (rc h x4 6 (m_X6_has x4 v3 h)).bind fun x5 => if ¬ x5 = 0 then ((gfR h v0 11 4).bind fun x6 => (rc h x6 8 (m_X8_look x6 x2 x4 v3 h)).bind fun x7 => if v4 = (0 : Int32) then ((gfR x7 v0 11 4).bind fun x8 => (rc x7 x8 8 (m_X8_everIn x8 x2 v3 x7)).bind fun x9 => some (x9, x7)) else if v4 = (1 : Int32) then ((gfR x7 v0 11 4).bind fun x10 => (rc x7 x10 8 (m_X8_alwaysIn x10 x2 v3 x7)).bind fun x11 => some (x11, x7)) else if v4 = (2 : Int32) then ((gfR x7 v0 11 4).bind fun x12 => (rc x7 x12 8 (m_X8_changes x12 x2 v3 x7)).bind fun x13 => some (x13, x7)) else if v4 = (3 : Int32) then ((gfR x7 v0 11 4).bind fun x14 => (rc x7 x14 8 (m_X8_versionsHeld x14 x2 v3 x7)).bind fun x15 => some (x15, x7)) else (rc x7 v0 11 (m_X11_foundAt v0 x2 v3 v4 x7)).bind fun x16 => some (x16, x7)) else some ((-1 : Int32), h)
set_option maxRecDepth 20000 in
theorem ok_X11_found {r : (Int32 × Hp)} {v0 : Nat} {v1 : Int32} {v2 : Int32} {v3 : Int32} {v4 : Int32} {h : Hp} (H : m_X11_found v0 v1 v2 v3 v4 h = some r) : Ev M_X11_found [aA v0, aI v1, aI v2, aI v3, aI v4] h (some (aI r.1), r.2) := by
  show Go M_X11_found (some (aI r.1), r.2) 0 [some (aA v0), some (aI v1), some (aI v2), some (aI v3), some (aI v4), none, none] [] h
  unfold m_X11_found at H
  refine go_aloadn dX11_found_0 rfl ?_
  refine gm_getR fd_X11_10 dX11_found_1 H (fun x1 H => ?_)
  refine go_iloadn dX11_found_4 rfl ?_
  obtain ⟨c1, x2, ex2, H⟩ := gm_rc H
  refine go_callV (vs := [aI v1]) (stk := []) (o1 := (some (aA x2), h)) mk_X9_archiveAt sv_X11_found_86 cl_X9 rfl dX11_found_5 c1 rfl rfl (Nat.le_of_ble_eq_true rfl) (Nat.le_of_ble_eq_true rfl) (ok_X9_archiveAt ex2) (show Go M_X11_found (some (aI r.1), r.2) 8 [some (aA v0), some (aI v1), some (aI v2), some (aI v3), some (aI v4), none, none] [aA x2] h from ?_)
  refine go_astore (loc2 := [some (aA v0), some (aI v1), some (aI v2), some (aI v3), some (aI v4), some (aA x2), none]) dX11_found_8 (by decide) rfl ?_
  refine go_aloadn dX11_found_10 rfl ?_
  refine gm_getR fd_X11_10 dX11_found_11 H (fun x3 H => ?_)
  refine go_iloadn dX11_found_14 rfl ?_
  obtain ⟨c2, x4, ex4, H⟩ := gm_rc H
  refine go_callV (vs := [aI v2]) (stk := []) (o1 := (some (aA x4), h)) mk_X9_questionsAt sv_X11_found_231 cl_X9 rfl dX11_found_15 c2 rfl rfl (Nat.le_of_ble_eq_true rfl) (Nat.le_of_ble_eq_true rfl) (ok_X9_questionsAt ex4) (show Go M_X11_found (some (aI r.1), r.2) 18 [some (aA v0), some (aI v1), some (aI v2), some (aI v3), some (aI v4), some (aA x2), none] [aA x4] h from ?_)
  refine go_astore (loc2 := [some (aA v0), some (aI v1), some (aI v2), some (aI v3), some (aI v4), some (aA x2), some (aA x4)]) dX11_found_18 (by decide) rfl ?_
  refine go_aload dX11_found_20 rfl ?_
  obtain ⟨c4, H⟩ := gm_nz H
  refine go_ifnull (tgt := 39) dX11_found_22 (by decide) c4 (fun c3 => ?_) (fun c3 => ?_)
  · replace H := (gm_ite H).1 c3
    refine go_iconst (v := (-1 : Int32)) dX11_found_39 rfl ?_
    obtain rfl := Option.some.inj H
    exact go_ireturn dX11_found_40 (tyI_int rfl)
  · replace H := (gm_ite H).2 c3
    refine go_aload dX11_found_25 rfl ?_
    obtain ⟨c6, H⟩ := gm_nz H
    refine go_ifnull (tgt := 39) dX11_found_27 (by decide) c6 (fun c5 => ?_) (fun c5 => ?_)
    · replace H := (gm_ite H).1 c5
      refine go_iconst (v := (-1 : Int32)) dX11_found_39 rfl ?_
      obtain rfl := Option.some.inj H
      exact go_ireturn dX11_found_40 (tyI_int rfl)
    · replace H := (gm_ite H).2 c5
      refine go_aload dX11_found_30 rfl ?_
      refine go_iloadn dX11_found_32 rfl ?_
      obtain ⟨c7, x5, ex5, H⟩ := gm_rc H
      refine go_callV (vs := [aI v3]) (stk := []) (o1 := (some (aI x5), h)) mk_X6_has sv_X11_found_239 cl_X6 rfl dX11_found_33 c7 rfl rfl (Nat.le_of_ble_eq_true rfl) (Nat.le_of_ble_eq_true rfl) (ok_X6_has ex5) (show Go M_X11_found (some (aI r.1), r.2) 36 [some (aA v0), some (aI v1), some (aI v2), some (aI v3), some (aI v4), some (aA x2), some (aA x4)] [aI x5] h from ?_)
      refine go_if_ne (tgt := 41) dX11_found_36 (by decide) (fun c8 => ?_) (fun c8 => ?_)
      · replace H := (gm_ite H).1 c8
        refine go_aloadn dX11_found_41 rfl ?_
        refine gm_getR fd_X11_37 dX11_found_42 H (fun x6 H => ?_)
        refine go_aload dX11_found_45 rfl ?_
        refine go_aload dX11_found_47 rfl ?_
        refine go_iloadn dX11_found_49 rfl ?_
        obtain ⟨c9, x7, ex7, H⟩ := gm_rc H
        refine go_callV (vs := [aA x2, aA x4, aI v3]) (stk := []) (o1 := (none, x7)) mk_X8_look sv_X11_found_254 cl_X8 rfl dX11_found_50 c9 rfl rfl (Nat.le_of_ble_eq_true rfl) (Nat.le_of_ble_eq_true rfl) (ok_X8_look ex7) (show Go M_X11_found (some (aI r.1), r.2) 53 [some (aA v0), some (aI v1), some (aI v2), some (aI v3), some (aI v4), some (aA x2), some (aA x4)] [] x7 from ?_)
        refine go_iload dX11_found_53 rfl ?_
        by_cases c10 : v4 = (0 : Int32)
        · replace H := (gm_ite H).1 c10
          refine go_eqI c10 ?_
          refine go_tableIn (tgt := 84) dX11_found_55 (by decide) (by decide) rfl (by decide) ?_
          refine go_aloadn dX11_found_84 rfl ?_
          refine gm_getR fd_X11_37 dX11_found_85 H (fun x8 H => ?_)
          refine go_aload dX11_found_88 rfl ?_
          refine go_iloadn dX11_found_90 rfl ?_
          obtain ⟨c11, x9, ex9, H⟩ := gm_rc H
          refine go_callV (vs := [aA x2, aI v3]) (stk := []) (o1 := (some (aI x9), x7)) mk_X8_everIn sv_X11_found_271 cl_X8 rfl dX11_found_91 c11 rfl rfl (Nat.le_of_ble_eq_true rfl) (Nat.le_of_ble_eq_true rfl) (ok_X8_everIn ex9) (show Go M_X11_found (some (aI r.1), r.2) 94 [some (aA v0), some (aI v1), some (aI v2), some (aI v3), some (aI v4), some (aA x2), some (aA x4)] [aI x9] x7 from ?_)
          obtain rfl := Option.some.inj H
          exact go_ireturn dX11_found_94 (tyI_int rfl)
        · replace H := (gm_ite H).2 c10
          by_cases c12 : v4 = (1 : Int32)
          · replace H := (gm_ite H).1 c12
            refine go_eqI c12 ?_
            refine go_tableIn (tgt := 95) dX11_found_55 (by decide) (by decide) rfl (by decide) ?_
            refine go_aloadn dX11_found_95 rfl ?_
            refine gm_getR fd_X11_37 dX11_found_96 H (fun x10 H => ?_)
            refine go_aload dX11_found_99 rfl ?_
            refine go_iloadn dX11_found_101 rfl ?_
            obtain ⟨c13, x11, ex11, H⟩ := gm_rc H
            refine go_callV (vs := [aA x2, aI v3]) (stk := []) (o1 := (some (aI x11), x7)) mk_X8_alwaysIn sv_X11_found_274 cl_X8 rfl dX11_found_102 c13 rfl rfl (Nat.le_of_ble_eq_true rfl) (Nat.le_of_ble_eq_true rfl) (ok_X8_alwaysIn ex11) (show Go M_X11_found (some (aI r.1), r.2) 105 [some (aA v0), some (aI v1), some (aI v2), some (aI v3), some (aI v4), some (aA x2), some (aA x4)] [aI x11] x7 from ?_)
            obtain rfl := Option.some.inj H
            exact go_ireturn dX11_found_105 (tyI_int rfl)
          · replace H := (gm_ite H).2 c12
            by_cases c14 : v4 = (2 : Int32)
            · replace H := (gm_ite H).1 c14
              refine go_eqI c14 ?_
              refine go_tableIn (tgt := 106) dX11_found_55 (by decide) (by decide) rfl (by decide) ?_
              refine go_aloadn dX11_found_106 rfl ?_
              refine gm_getR fd_X11_37 dX11_found_107 H (fun x12 H => ?_)
              refine go_aload dX11_found_110 rfl ?_
              refine go_iloadn dX11_found_112 rfl ?_
              obtain ⟨c15, x13, ex13, H⟩ := gm_rc H
              refine go_callV (vs := [aA x2, aI v3]) (stk := []) (o1 := (some (aI x13), x7)) mk_X8_changes sv_X11_found_277 cl_X8 rfl dX11_found_113 c15 rfl rfl (Nat.le_of_ble_eq_true rfl) (Nat.le_of_ble_eq_true rfl) (ok_X8_changes ex13) (show Go M_X11_found (some (aI r.1), r.2) 116 [some (aA v0), some (aI v1), some (aI v2), some (aI v3), some (aI v4), some (aA x2), some (aA x4)] [aI x13] x7 from ?_)
              obtain rfl := Option.some.inj H
              exact go_ireturn dX11_found_116 (tyI_int rfl)
            · replace H := (gm_ite H).2 c14
              by_cases c16 : v4 = (3 : Int32)
              · replace H := (gm_ite H).1 c16
                refine go_eqI c16 ?_
                refine go_tableIn (tgt := 117) dX11_found_55 (by decide) (by decide) rfl (by decide) ?_
                refine go_aloadn dX11_found_117 rfl ?_
                refine gm_getR fd_X11_37 dX11_found_118 H (fun x14 H => ?_)
                refine go_aload dX11_found_121 rfl ?_
                refine go_iloadn dX11_found_123 rfl ?_
                obtain ⟨c17, x15, ex15, H⟩ := gm_rc H
                refine go_callV (vs := [aA x2, aI v3]) (stk := []) (o1 := (some (aI x15), x7)) mk_X8_versionsHeld sv_X11_found_280 cl_X8 rfl dX11_found_124 c17 rfl rfl (Nat.le_of_ble_eq_true rfl) (Nat.le_of_ble_eq_true rfl) (ok_X8_versionsHeld ex15) (show Go M_X11_found (some (aI r.1), r.2) 127 [some (aA v0), some (aI v1), some (aI v2), some (aI v3), some (aI v4), some (aA x2), some (aA x4)] [aI x15] x7 from ?_)
                obtain rfl := Option.some.inj H
                exact go_ireturn dX11_found_127 (tyI_int rfl)
              · replace H := (gm_ite H).2 c16
                refine go_tableOut (tgt := 128) dX11_found_55 (sw_out (fun i h1 h2 e => ?_)) (by decide) ?_
                · have h3 : i = 0 ∨ i = 1 ∨ i = 2 ∨ i = 3 := by omega
                  rcases h3 with rfl | rfl | rfl | rfl
                  · exact sw_ne c10 (by decide) e
                  · exact sw_ne c12 (by decide) e
                  · exact sw_ne c14 (by decide) e
                  · exact sw_ne c16 (by decide) e
                · skip
                  refine go_aloadn dX11_found_128 rfl ?_
                  refine go_aload dX11_found_129 rfl ?_
                  refine go_iloadn dX11_found_131 rfl ?_
                  refine go_iload dX11_found_132 rfl ?_
                  obtain ⟨c18, x16, ex16, H⟩ := gm_rc H
                  refine go_callV (vs := [aA x2, aI v3, aI v4]) (stk := []) (o1 := (some (aI x16), x7)) mk_X11_foundAt sv_X11_found_283 cl_X11 rfl dX11_found_134 c18 rfl rfl (Nat.le_of_ble_eq_true rfl) (Nat.le_of_ble_eq_true rfl) (ok_X11_foundAt ex16) (show Go M_X11_found (some (aI r.1), r.2) 137 [some (aA v0), some (aI v1), some (aI v2), some (aI v3), some (aI v4), some (aA x2), some (aA x4)] [aI x16] x7 from ?_)
                  obtain rfl := Option.some.inj H
                  exact go_ireturn dX11_found_137 (tyI_int rfl)
      · replace H := (gm_ite H).2 c8
        refine go_iconst (v := (-1 : Int32)) dX11_found_39 rfl ?_
        obtain rfl := Option.some.inj H
        exact go_ireturn dX11_found_40 (tyI_int rfl)
/-! X12_asOf -/
def j_X12_asOf_59 (v0 : Nat) (v1 : Int32) (v2 : Int32) (v3 : Int32) (v4 : Int32) (v6 : Int32) (s0 : Int32) (h : Hp) (K67 : Int32 → Option Int32) (k : Int32 → Int32 → Option Int32) : Option Int32 :=
  k s0 (v6 + (1 : Int32))
set_option maxRecDepth 20000 in
theorem okj_X12_asOf_59 {r : Int32} (v0 : Nat) (v1 : Int32) (v2 : Int32) (v3 : Int32) (v4 : Int32) (v6 : Int32) (s0 : Int32) (h : Hp) (K67 : Int32 → Option Int32) (k : Int32 → Int32 → Option Int32) (HK67 : ∀ (v5q : Int32) , K67 v5q = some r → Go M_X12_asOf (some (aI r), h) 67 [some (aA v0), some (aI v1), some (aI v2), some (aI v3), some (aI v4), some (aI v5q), none] [] h) (Hk : ∀ (v5q : Int32) (v6q : Int32), k v5q v6q = some r → Go M_X12_asOf (some (aI r), h) 22 [some (aA v0), some (aI v1), some (aI v2), some (aI v3), some (aI v4), some (aI v5q), some (aI v6q)] [] h) (H : j_X12_asOf_59 v0 v1 v2 v3 v4 v6 s0 h K67 k = some r) : Go M_X12_asOf (some (aI r), h) 59 [some (aA v0), some (aI v1), some (aI v2), some (aI v3), some (aI v4), none, some (aI v6)] [aI s0] h := by
  unfold j_X12_asOf_59 at H
  refine go_istore (loc2 := [some (aA v0), some (aI v1), some (aI v2), some (aI v3), some (aI v4), some (aI s0), some (aI v6)]) dX12_asOf_59 (by decide) rfl ?_
  refine go_iinc (v := (v6 + (1 : Int32))) (loc2 := [some (aA v0), some (aI v1), some (aI v2), some (aI v3), some (aI v4), some (aI s0), some (aI (v6 + (1 : Int32)))]) dX12_asOf_61 rfl rfl (by decide) rfl ?_
  refine go_goto (tgt := 22) dX12_asOf_64 (by decide) ?_
  exact Hk s0 (v6 + (1 : Int32)) H
def b_X12_asOf_22 (v0 : Nat) (v1 : Int32) (v2 : Int32) (v3 : Int32) (v4 : Int32) (h : Hp) (K67 : Int32 → Option Int32) (k : Int32 → Int32 → Option Int32) (v5 : Int32) (v6 : Int32) : Option Int32 :=
  (rc h v0 12 (m_X12_versions v0 v4 h)).bind fun x1 => if x1 ≤ v6 then K67 v5 else (gfR h v0 12 18).bind fun x2 => (m_X12_at v4 v6 h).bind fun x3 => (alI h x2 ((6 : Int32) + x3)).bind fun x4 => j_X12_asOf_59 v0 v1 v2 v3 v4 v6 (if v2 < x4 then v5 else v6) h K67 k
set_option maxRecDepth 20000 in
theorem okb_X12_asOf_22 {r : Int32} (v0 : Nat) (v1 : Int32) (v2 : Int32) (v3 : Int32) (v4 : Int32) (h : Hp) (K67 : Int32 → Option Int32) (k : Int32 → Int32 → Option Int32) (v5 : Int32) (v6 : Int32) (HK67 : ∀ (v5q : Int32) , K67 v5q = some r → Go M_X12_asOf (some (aI r), h) 67 [some (aA v0), some (aI v1), some (aI v2), some (aI v3), some (aI v4), some (aI v5q), none] [] h) (Hk : ∀ (v5q : Int32) (v6q : Int32), k v5q v6q = some r → Go M_X12_asOf (some (aI r), h) 22 [some (aA v0), some (aI v1), some (aI v2), some (aI v3), some (aI v4), some (aI v5q), some (aI v6q)] [] h) (H : b_X12_asOf_22 v0 v1 v2 v3 v4 h K67 k v5 v6 = some r) : Go M_X12_asOf (some (aI r), h) 22 [some (aA v0), some (aI v1), some (aI v2), some (aI v3), some (aI v4), some (aI v5), some (aI v6)] [] h := by
  unfold b_X12_asOf_22 at H
  refine go_iload dX12_asOf_22 rfl ?_
  refine go_aloadn dX12_asOf_24 rfl ?_
  refine go_iload dX12_asOf_25 rfl ?_
  obtain ⟨c1, x1, ex1, H⟩ := gm_rc H
  refine go_callV (vs := [aI v4]) (stk := [aI v6]) (o1 := (some (aI x1), h)) mk_X12_versions sv_X12_asOf_259 cl_X12 rfl dX12_asOf_27 c1 rfl rfl (Nat.le_of_ble_eq_true rfl) (Nat.le_of_ble_eq_true rfl) (ok_X12_versions ex1) (show Go M_X12_asOf (some (aI r), h) 30 [some (aA v0), some (aI v1), some (aI v2), some (aI v3), some (aI v4), some (aI v5), some (aI v6)] [aI x1, aI v6] h from ?_)
  refine go_icmp_ge (tgt := 67) dX12_asOf_30 (by decide) (fun c2 => ?_) (fun c2 => ?_)
  · replace H := (gm_ite H).1 c2
    refine go_mask [true, true, true, true, true, true, false] (loc' := [some (aA v0), some (aI v1), some (aI v2), some (aI v3), some (aI v4), some (aI v5), none]) rfl ?_
    exact HK67 v5 H
  · replace H := (gm_ite H).2 c2
    refine go_aloadn dX12_asOf_33 rfl ?_
    refine gm_getR fd_X12_35 dX12_asOf_34 H (fun x2 H => ?_)
    refine go_bipush (v := (6 : Int32)) dX12_asOf_37 rfl ?_
    refine go_iload dX12_asOf_39 rfl ?_
    refine go_iload dX12_asOf_41 rfl ?_
    obtain ⟨x3, ex3, H⟩ := bind_some H
    refine go_callS (vs := [aI v4, aI v6]) (stk := [aI (6 : Int32), aA x2]) (o1 := (some (aI x3), h)) mk_X12_at ss_X12_asOf_146 dX12_asOf_43 rfl rfl (Nat.le_of_ble_eq_true rfl) (Nat.le_of_ble_eq_true rfl) (ok_X12_at ex3) (show Go M_X12_asOf (some (aI r), h) 46 [some (aA v0), some (aI v1), some (aI v2), some (aI v3), some (aI v4), some (aI v5), some (aI v6)] [aI x3, aI (6 : Int32), aA x2] h from ?_)
    refine go_iadd dX12_asOf_46 ?_
    refine gm_iald dX12_asOf_47 H (fun x4 H => ?_)
    refine go_iloadn dX12_asOf_48 rfl ?_
    refine go_icmp_gt (tgt := 57) dX12_asOf_49 (by decide) (fun c4 => ?_) (fun c4 => ?_)
    · rw [if_pos c4] at H
      refine go_iload dX12_asOf_57 rfl ?_
      refine go_mask [true, true, true, true, true, false, true] (loc' := [some (aA v0), some (aI v1), some (aI v2), some (aI v3), some (aI v4), none, some (aI v6)]) rfl ?_
      exact okj_X12_asOf_59 v0 v1 v2 v3 v4 v6 v5 h K67 k HK67 Hk H
    · rw [if_neg c4] at H
      refine go_iload dX12_asOf_52 rfl ?_
      refine go_goto (tgt := 59) dX12_asOf_54 (by decide) ?_
      refine go_mask [true, true, true, true, true, false, true] (loc' := [some (aA v0), some (aI v1), some (aI v2), some (aI v3), some (aI v4), none, some (aI v6)]) rfl ?_
      exact okj_X12_asOf_59 v0 v1 v2 v3 v4 v6 v6 h K67 k HK67 Hk H
def l_X12_asOf_22 (v0 : Nat) (v1 : Int32) (v2 : Int32) (v3 : Int32) (v4 : Int32) (h : Hp) (K67 : Int32 → Option Int32) (v5 : Int32) (v6 : Int32) : Option Int32 := loopK FUEL (fun (k : Int32 × Int32 → Option Int32) (s : Int32 × Int32) => b_X12_asOf_22 v0 v1 v2 v3 v4 h K67 (fun v5q v6q => k (v5q, v6q)) s.1 s.2) (v5, v6)
theorem okl_X12_asOf_22 {r : Int32} (v0 : Nat) (v1 : Int32) (v2 : Int32) (v3 : Int32) (v4 : Int32) (h : Hp) (K67 : Int32 → Option Int32) (v5 : Int32) (v6 : Int32) (HK67 : ∀ (v5q : Int32) , K67 v5q = some r → Go M_X12_asOf (some (aI r), h) 67 [some (aA v0), some (aI v1), some (aI v2), some (aI v3), some (aI v4), some (aI v5q), none] [] h) (H : l_X12_asOf_22 v0 v1 v2 v3 v4 h K67 v5 v6 = some r) : Go M_X12_asOf (some (aI r), h) 22 [some (aA v0), some (aI v1), some (aI v2), some (aI v3), some (aI v4), some (aI v5), some (aI v6)] [] h := by
  unfold l_X12_asOf_22 at H
  exact go_loop (σ := Int32 × Int32) (body := (fun (k : Int32 × Int32 → Option Int32) (s : Int32 × Int32) => b_X12_asOf_22 v0 v1 v2 v3 v4 h K67 (fun v5q v6q => k (v5q, v6q)) s.1 s.2)) (fun s => [some (aA v0), some (aI v1), some (aI v2), some (aI v3), some (aI v4), some (aI s.1), some (aI s.2)]) (fun s => h) (fun k s Hk H => okb_X12_asOf_22 v0 v1 v2 v3 v4 h K67 (fun v5q v6q => k (v5q, v6q)) s.1 s.2 HK67 (fun v5q v6q H => Hk (v5q, v6q) H) H) FUEL (v5, v6) H
def j_X12_asOf_101 (v0 : Nat) (v1 : Int32) (v2 : Int32) (v4 : Int32) (s0 : Int32) (s1 : Int32) (h : Hp) (k : Int32 → Int32 → Option Int32) : Option Int32 :=
  k (s0 ||| s1) (v4 + (1 : Int32))
set_option maxRecDepth 20000 in
theorem okj_X12_asOf_101 {r : Int32} (v0 : Nat) (v1 : Int32) (v2 : Int32) (v4 : Int32) (s0 : Int32) (s1 : Int32) (h : Hp) (k : Int32 → Int32 → Option Int32) (Hk : ∀ (v3q : Int32) (v4q : Int32), k v3q v4q = some r → Go M_X12_asOf (some (aI r), h) 5 [some (aA v0), some (aI v1), some (aI v2), some (aI v3q), some (aI v4q), none, none] [] h) (H : j_X12_asOf_101 v0 v1 v2 v4 s0 s1 h k = some r) : Go M_X12_asOf (some (aI r), h) 101 [some (aA v0), some (aI v1), some (aI v2), none, some (aI v4), none, none] [aI s1, aI s0] h := by
  unfold j_X12_asOf_101 at H
  refine go_ior dX12_asOf_101 ?_
  refine go_istoren (loc2 := [some (aA v0), some (aI v1), some (aI v2), some (aI (s0 ||| s1)), some (aI v4), none, none]) dX12_asOf_102 rfl (by decide) rfl ?_
  refine go_iinc (v := (v4 + (1 : Int32))) (loc2 := [some (aA v0), some (aI v1), some (aI v2), some (aI (s0 ||| s1)), some (aI (v4 + (1 : Int32))), none, none]) dX12_asOf_103 rfl rfl (by decide) rfl ?_
  refine go_goto (tgt := 5) dX12_asOf_106 (by decide) ?_
  exact Hk (s0 ||| s1) (v4 + (1 : Int32)) H
def j_X12_asOf_67 (v0 : Nat) (v1 : Int32) (v2 : Int32) (v3 : Int32) (v4 : Int32) (v5 : Int32)  (h : Hp) (k : Int32 → Int32 → Option Int32) : Option Int32 :=
  if v5 = (-1 : Int32) then j_X12_asOf_101 v0 v1 v2 v4 v3 (0 : Int32) h k else (gfR h v0 12 29).bind fun x1 => (alI h x1 (((4 : Int32) * v1) + v4)).bind fun x2 => (m_X12_has x2 v5 h).bind fun x3 => if x3 = 0 then j_X12_asOf_101 v0 v1 v2 v4 v3 (0 : Int32) h k else j_X12_asOf_101 v0 v1 v2 v4 v3 (ishlF (1 : Int32) v4) h k
set_option maxRecDepth 20000 in
theorem okj_X12_asOf_67 {r : Int32} (v0 : Nat) (v1 : Int32) (v2 : Int32) (v3 : Int32) (v4 : Int32) (v5 : Int32)  (h : Hp) (k : Int32 → Int32 → Option Int32) (Hk : ∀ (v3q : Int32) (v4q : Int32), k v3q v4q = some r → Go M_X12_asOf (some (aI r), h) 5 [some (aA v0), some (aI v1), some (aI v2), some (aI v3q), some (aI v4q), none, none] [] h) (H : j_X12_asOf_67 v0 v1 v2 v3 v4 v5 h k = some r) : Go M_X12_asOf (some (aI r), h) 67 [some (aA v0), some (aI v1), some (aI v2), some (aI v3), some (aI v4), some (aI v5), none] [] h := by
  unfold j_X12_asOf_67 at H
  refine go_iloadn dX12_asOf_67 rfl ?_
  refine go_iload dX12_asOf_68 rfl ?_
  refine go_iconst (v := (-1 : Int32)) dX12_asOf_70 rfl ?_
  refine go_icmp_eq (tgt := 100) dX12_asOf_71 (by decide) (fun c1 => ?_) (fun c1 => ?_)
  · replace H := (gm_ite H).1 c1
    refine go_iconst (v := (0 : Int32)) dX12_asOf_100 rfl ?_
    refine go_mask [true, true, true, false, true, false, false] (loc' := [some (aA v0), some (aI v1), some (aI v2), none, some (aI v4), none, none]) rfl ?_
    exact okj_X12_asOf_101 v0 v1 v2 v4 v3 (0 : Int32) h k Hk H
  · replace H := (gm_ite H).2 c1
    refine go_aloadn dX12_asOf_74 rfl ?_
    refine gm_getR fd_X12_50 dX12_asOf_75 H (fun x1 H => ?_)
    refine go_iconst (v := (4 : Int32)) dX12_asOf_78 rfl ?_
    refine go_iloadn dX12_asOf_79 rfl ?_
    refine go_imul dX12_asOf_80 ?_
    refine go_iload dX12_asOf_81 rfl ?_
    refine go_iadd dX12_asOf_83 ?_
    refine gm_iald dX12_asOf_84 H (fun x2 H => ?_)
    refine go_iload dX12_asOf_85 rfl ?_
    obtain ⟨x3, ex3, H⟩ := bind_some H
    refine go_callS (vs := [aI x2, aI v5]) (stk := [aI v3]) (o1 := (some (aI x3), h)) mk_X12_has ss_X12_asOf_64 dX12_asOf_87 rfl rfl (Nat.le_of_ble_eq_true rfl) (Nat.le_of_ble_eq_true rfl) (ok_X12_has ex3) (show Go M_X12_asOf (some (aI r), h) 90 [some (aA v0), some (aI v1), some (aI v2), some (aI v3), some (aI v4), some (aI v5), none] [aI x3, aI v3] h from ?_)
    refine go_if_eq (tgt := 100) dX12_asOf_90 (by decide) (fun c3 => ?_) (fun c3 => ?_)
    · replace H := (gm_ite H).1 c3
      refine go_iconst (v := (0 : Int32)) dX12_asOf_100 rfl ?_
      refine go_mask [true, true, true, false, true, false, false] (loc' := [some (aA v0), some (aI v1), some (aI v2), none, some (aI v4), none, none]) rfl ?_
      exact okj_X12_asOf_101 v0 v1 v2 v4 v3 (0 : Int32) h k Hk H
    · replace H := (gm_ite H).2 c3
      refine go_iconst (v := (1 : Int32)) dX12_asOf_93 rfl ?_
      refine go_iload dX12_asOf_94 rfl ?_
      refine go_ishl dX12_asOf_96 ?_
      refine go_goto (tgt := 101) dX12_asOf_97 (by decide) ?_
      refine go_mask [true, true, true, false, true, false, false] (loc' := [some (aA v0), some (aI v1), some (aI v2), none, some (aI v4), none, none]) rfl ?_
      exact okj_X12_asOf_101 v0 v1 v2 v4 v3 (ishlF (1 : Int32) v4) h k Hk H
def b_X12_asOf_5 (v0 : Nat) (v1 : Int32) (v2 : Int32) (h : Hp) (k : Int32 → Int32 → Option Int32) (v3 : Int32) (v4 : Int32) : Option Int32 :=
  (gfR h v0 12 18).bind fun x1 => (alI h x1 (0 : Int32)).bind fun x2 => if x2 ≤ v4 then (some v3) else l_X12_asOf_22 v0 v1 v2 v3 v4 h (fun a3_5 => j_X12_asOf_67 v0 v1 v2 v3 v4 a3_5 h k) (-1 : Int32) (0 : Int32)
set_option maxRecDepth 20000 in
theorem okb_X12_asOf_5 {r : Int32} (v0 : Nat) (v1 : Int32) (v2 : Int32) (h : Hp) (k : Int32 → Int32 → Option Int32) (v3 : Int32) (v4 : Int32) (Hk : ∀ (v3q : Int32) (v4q : Int32), k v3q v4q = some r → Go M_X12_asOf (some (aI r), h) 5 [some (aA v0), some (aI v1), some (aI v2), some (aI v3q), some (aI v4q), none, none] [] h) (H : b_X12_asOf_5 v0 v1 v2 h k v3 v4 = some r) : Go M_X12_asOf (some (aI r), h) 5 [some (aA v0), some (aI v1), some (aI v2), some (aI v3), some (aI v4), none, none] [] h := by
  unfold b_X12_asOf_5 at H
  refine go_iload dX12_asOf_5 rfl ?_
  refine go_aloadn dX12_asOf_7 rfl ?_
  refine gm_getR fd_X12_35 dX12_asOf_8 H (fun x1 H => ?_)
  refine go_iconst (v := (0 : Int32)) dX12_asOf_11 rfl ?_
  refine gm_iald dX12_asOf_12 H (fun x2 H => ?_)
  refine go_icmp_ge (tgt := 109) dX12_asOf_13 (by decide) (fun c1 => ?_) (fun c1 => ?_)
  · replace H := (gm_ite H).1 c1
    refine go_iloadn dX12_asOf_109 rfl ?_
    obtain rfl := Option.some.inj H
    exact go_ireturn dX12_asOf_110 (tyI_int rfl)
  · replace H := (gm_ite H).2 c1
    refine go_iconst (v := (-1 : Int32)) dX12_asOf_16 rfl ?_
    refine go_istore (loc2 := [some (aA v0), some (aI v1), some (aI v2), some (aI v3), some (aI v4), some (aI (-1 : Int32)), none]) dX12_asOf_17 (by decide) rfl ?_
    refine go_iconst (v := (0 : Int32)) dX12_asOf_19 rfl ?_
    refine go_istore (loc2 := [some (aA v0), some (aI v1), some (aI v2), some (aI v3), some (aI v4), some (aI (-1 : Int32)), some (aI (0 : Int32))]) dX12_asOf_20 (by decide) rfl ?_
    refine okl_X12_asOf_22 v0 v1 v2 v3 v4 h (fun a3_5 => j_X12_asOf_67 v0 v1 v2 v3 v4 a3_5 h k) (-1 : Int32) (0 : Int32) ?_ H
    · intro a3_5 H
      exact okj_X12_asOf_67 v0 v1 v2 v3 v4 a3_5 h k Hk H
def l_X12_asOf_5 (v0 : Nat) (v1 : Int32) (v2 : Int32) (h : Hp) (v3 : Int32) (v4 : Int32) : Option Int32 := loopK FUEL (fun (k : Int32 × Int32 → Option Int32) (s : Int32 × Int32) => b_X12_asOf_5 v0 v1 v2 h (fun v3q v4q => k (v3q, v4q)) s.1 s.2) (v3, v4)
theorem okl_X12_asOf_5 {r : Int32} (v0 : Nat) (v1 : Int32) (v2 : Int32) (h : Hp) (v3 : Int32) (v4 : Int32) (H : l_X12_asOf_5 v0 v1 v2 h v3 v4 = some r) : Go M_X12_asOf (some (aI r), h) 5 [some (aA v0), some (aI v1), some (aI v2), some (aI v3), some (aI v4), none, none] [] h := by
  unfold l_X12_asOf_5 at H
  exact go_loop (σ := Int32 × Int32) (body := (fun (k : Int32 × Int32 → Option Int32) (s : Int32 × Int32) => b_X12_asOf_5 v0 v1 v2 h (fun v3q v4q => k (v3q, v4q)) s.1 s.2)) (fun s => [some (aA v0), some (aI v1), some (aI v2), some (aI s.1), some (aI s.2), none, none]) (fun s => h) (fun k s Hk H => okb_X12_asOf_5 v0 v1 v2 h (fun v3q v4q => k (v3q, v4q)) s.1 s.2  (fun v3q v4q H => Hk (v3q, v4q) H) H) FUEL (v3, v4) H
def m_X12_asOf (v0 : Nat) (v1 : Int32) (v2 : Int32) (h : Hp) : Option Int32 :=
  l_X12_asOf_5 v0 v1 v2 h (0 : Int32) (0 : Int32)
set_option maxRecDepth 20000 in
theorem ok_X12_asOf {r : Int32} {v0 : Nat} {v1 : Int32} {v2 : Int32} {h : Hp} (H : m_X12_asOf v0 v1 v2 h = some r) : Ev M_X12_asOf [aA v0, aI v1, aI v2] h (some (aI r), h) := by
  show Go M_X12_asOf (some (aI r), h) 0 [some (aA v0), some (aI v1), some (aI v2), none, none, none, none] [] h
  unfold m_X12_asOf at H
  refine go_iconst (v := (0 : Int32)) dX12_asOf_0 rfl ?_
  refine go_istoren (loc2 := [some (aA v0), some (aI v1), some (aI v2), some (aI (0 : Int32)), none, none, none]) dX12_asOf_1 rfl (by decide) rfl ?_
  refine go_iconst (v := (0 : Int32)) dX12_asOf_2 rfl ?_
  refine go_istore (loc2 := [some (aA v0), some (aI v1), some (aI v2), some (aI (0 : Int32)), some (aI (0 : Int32)), none, none]) dX12_asOf_3 (by decide) rfl ?_
  exact okl_X12_asOf_5 v0 v1 v2 h (0 : Int32) (0 : Int32) H
