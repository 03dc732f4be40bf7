/-! X12_askWhere -/
def j_X12_askWhere_69 (v0 : Nat) (v1 : Int32) (v2 : Int32) (v3 : Int32)  (h : Hp) (k : Int32 → Int32 → Int32 → Option Int32) : Option Int32 :=
  k v1 v2 (v3 + (1 : Int32))
set_option maxRecDepth 20000 in
theorem okj_X12_askWhere_69 {r : Int32} (v0 : Nat) (v1 : Int32) (v2 : Int32) (v3 : Int32)  (h : Hp) (k : Int32 → Int32 → Int32 → Option Int32) (Hk : ∀ (v1q : Int32) (v2q : Int32) (v3q : Int32), k v1q v2q v3q = some r → Go M_X12_askWhere (some (aI r), h) 8 [some (aA v0), some (aI v1q), some (aI v2q), some (aI v3q), none] [] h) (H : j_X12_askWhere_69 v0 v1 v2 v3 h k = some r) : Go M_X12_askWhere (some (aI r), h) 69 [some (aA v0), some (aI v1), some (aI v2), some (aI v3), none] [] h := by
  unfold j_X12_askWhere_69 at H
  refine go_iinc (v := (v3 + (1 : Int32))) (loc2 := [some (aA v0), some (aI v1), some (aI v2), some (aI (v3 + (1 : Int32))), none]) dX12_askWhere_69 rfl rfl (by decide) rfl ?_
  refine go_goto (tgt := 8) dX12_askWhere_72 (by decide) ?_
  exact Hk v1 v2 (v3 + (1 : Int32)) H
def b_X12_askWhere_8 (v0 : Nat) (h : Hp) (k : Int32 → Int32 → Int32 → Option Int32) (v1 : Int32) (v2 : Int32) (v3 : Int32) : Option Int32 :=
  if (40 : Int32) ≤ v3 then (some v1) else (gfI h v0 12 31).bind fun x1 => if x1 ≤ 0 then (some v1) else (gfR h v0 12 34).bind fun x2 => (alI h x2 v3).bind fun x3 => (gfI h v0 12 31).bind fun x4 => (gfR h v0 12 34).bind fun x5 => (alI h x5 v3).bind fun x6 => (m_X12_greater x3 (x4 - x6) h).bind fun x7 => (rc h v0 12 (m_X12_isVersion v0 (v3 / (10 : Int32)) (iremF v3 (10 : Int32)) h)).bind fun x8 => if x8 = 0 then j_X12_askWhere_69 v0 v1 v2 v3 h k else if v2 ≤ x7 then j_X12_askWhere_69 v0 v1 v2 v3 h k else j_X12_askWhere_69 v0 v3 x7 v3 h k
set_option maxRecDepth 20000 in
theorem okb_X12_askWhere_8 {r : Int32} (v0 : Nat) (h : Hp) (k : Int32 → Int32 → Int32 → Option Int32) (v1 : Int32) (v2 : Int32) (v3 : Int32) (Hk : ∀ (v1q : Int32) (v2q : Int32) (v3q : Int32), k v1q v2q v3q = some r → Go M_X12_askWhere (some (aI r), h) 8 [some (aA v0), some (aI v1q), some (aI v2q), some (aI v3q), none] [] h) (H : b_X12_askWhere_8 v0 h k v1 v2 v3 = some r) : Go M_X12_askWhere (some (aI r), h) 8 [some (aA v0), some (aI v1), some (aI v2), some (aI v3), none] [] h := by
  unfold b_X12_askWhere_8 at H
  refine go_iloadn dX12_askWhere_8 rfl ?_
  refine go_bipush (v := (40 : Int32)) dX12_askWhere_9 rfl ?_
  refine go_icmp_ge (tgt := 75) dX12_askWhere_11 (by decide) (fun c1 => ?_) (fun c1 => ?_)
  · replace H := (gm_ite H).1 c1
    refine go_iloadn dX12_askWhere_75 rfl ?_
    obtain rfl := Option.some.inj H
    exact go_ireturn dX12_askWhere_76 (tyI_int rfl)
  · replace H := (gm_ite H).2 c1
    refine go_aloadn dX12_askWhere_14 rfl ?_
    refine gm_getI fd_X12_440 dX12_askWhere_15 H (fun x1 H => ?_)
    refine go_if_le (tgt := 75) dX12_askWhere_18 (by decide) (fun c2 => ?_) (fun c2 => ?_)
    · replace H := (gm_ite H).1 c2
      refine go_iloadn dX12_askWhere_75 rfl ?_
      obtain rfl := Option.some.inj H
      exact go_ireturn dX12_askWhere_76 (tyI_int rfl)
    · replace H := (gm_ite H).2 c2
      refine go_aloadn dX12_askWhere_21 rfl ?_
      refine gm_getR fd_X12_53 dX12_askWhere_22 H (fun x2 H => ?_)
      refine go_iloadn dX12_askWhere_25 rfl ?_
      refine gm_iald dX12_askWhere_26 H (fun x3 H => ?_)
      refine go_aloadn dX12_askWhere_27 rfl ?_
      refine gm_getI fd_X12_440 dX12_askWhere_28 H (fun x4 H => ?_)
      refine go_aloadn dX12_askWhere_31 rfl ?_
      refine gm_getR fd_X12_53 dX12_askWhere_32 H (fun x5 H => ?_)
      refine go_iloadn dX12_askWhere_35 rfl ?_
      refine gm_iald dX12_askWhere_36 H (fun x6 H => ?_)
      refine go_isub dX12_askWhere_37 ?_
      obtain ⟨x7, ex7, H⟩ := bind_some H
      refine go_callS (vs := [aI x3, aI (x4 - x6)]) (stk := []) (o1 := (some (aI x7), h)) mk_X12_greater ss_X12_askWhere_297 dX12_askWhere_38 rfl rfl (Nat.le_of_ble_eq_true rfl) (Nat.le_of_ble_eq_true rfl) (ok_X12_greater ex7) (show Go M_X12_askWhere (some (aI r), h) 41 [some (aA v0), some (aI v1), some (aI v2), some (aI v3), none] [aI x7] h from ?_)
      refine go_istore (loc2 := [some (aA v0), some (aI v1), some (aI v2), some (aI v3), some (aI x7)]) dX12_askWhere_41 (by decide) rfl ?_
      refine go_aloadn dX12_askWhere_43 rfl ?_
      refine go_iloadn dX12_askWhere_44 rfl ?_
      refine go_bipush (v := (10 : Int32)) dX12_askWhere_45 rfl ?_
      refine go_idiv dX12_askWhere_47 (by decide) ?_
      refine go_iloadn dX12_askWhere_48 rfl ?_
      refine go_bipush (v := (10 : Int32)) dX12_askWhere_49 rfl ?_
      refine go_irem dX12_askWhere_51 (by decide) ?_
      obtain ⟨c4, x8, ex8, H⟩ := gm_rc H
      refine go_callV (vs := [aI (v3 / (10 : Int32)), aI (iremF v3 (10 : Int32))]) (stk := []) (o1 := (some (aI x8), h)) mk_X12_isVersion sv_X12_askWhere_284 cl_X12 rfl dX12_askWhere_52 c4 rfl rfl (Nat.le_of_ble_eq_true rfl) (Nat.le_of_ble_eq_true rfl) (ok_X12_isVersion ex8) (show Go M_X12_askWhere (some (aI r), h) 55 [some (aA v0), some (aI v1), some (aI v2), some (aI v3), some (aI x7)] [aI x8] h from ?_)
      refine go_if_eq (tgt := 69) dX12_askWhere_55 (by decide) (fun c5 => ?_) (fun c5 => ?_)
      · replace H := (gm_ite H).1 c5
        refine go_mask [true, true, true, true, false] (loc' := [some (aA v0), some (aI v1), some (aI v2), some (aI v3), none]) rfl ?_
        exact okj_X12_askWhere_69 v0 v1 v2 v3 h k Hk H
      · replace H := (gm_ite H).2 c5
        refine go_iload dX12_askWhere_58 rfl ?_
        refine go_iloadn dX12_askWhere_60 rfl ?_
        refine go_icmp_ge (tgt := 69) dX12_askWhere_61 (by decide) (fun c6 => ?_) (fun c6 => ?_)
        · replace H := (gm_ite H).1 c6
          refine go_mask [true, true, true, true, false] (loc' := [some (aA v0), some (aI v1), some (aI v2), some (aI v3), none]) rfl ?_
          exact okj_X12_askWhere_69 v0 v1 v2 v3 h k Hk H
        · replace H := (gm_ite H).2 c6
          refine go_iloadn dX12_askWhere_64 rfl ?_
          refine go_istoren (loc2 := [some (aA v0), some (aI v3), some (aI v2), some (aI v3), some (aI x7)]) dX12_askWhere_65 rfl (by decide) rfl ?_
          refine go_iload dX12_askWhere_66 rfl ?_
          refine go_istoren (loc2 := [some (aA v0), some (aI v3), some (aI x7), some (aI v3), some (aI x7)]) dX12_askWhere_68 rfl (by decide) rfl ?_
          refine go_mask [true, true, true, true, false] (loc' := [some (aA v0), some (aI v3), some (aI x7), some (aI v3), none]) rfl ?_
          exact okj_X12_askWhere_69 v0 v3 x7 v3 h k Hk H
def l_X12_askWhere_8 (v0 : Nat) (h : Hp) (v1 : Int32) (v2 : Int32) (v3 : Int32) : Option Int32 := loopK FUEL (fun (k : Int32 × Int32 × Int32 → Option Int32) (s : Int32 × Int32 × Int32) => b_X12_askWhere_8 v0 h (fun v1q v2q v3q => k (v1q, v2q, v3q)) s.1 s.2.1 s.2.2) (v1, v2, v3)
theorem okl_X12_askWhere_8 {r : Int32} (v0 : Nat) (h : Hp) (v1 : Int32) (v2 : Int32) (v3 : Int32) (H : l_X12_askWhere_8 v0 h v1 v2 v3 = some r) : Go M_X12_askWhere (some (aI r), h) 8 [some (aA v0), some (aI v1), some (aI v2), some (aI v3), none] [] h := by
  unfold l_X12_askWhere_8 at H
  exact go_loop (σ := Int32 × Int32 × Int32) (body := (fun (k : Int32 × Int32 × Int32 → Option Int32) (s : Int32 × Int32 × Int32) => b_X12_askWhere_8 v0 h (fun v1q v2q v3q => k (v1q, v2q, v3q)) s.1 s.2.1 s.2.2)) (fun s => [some (aA v0), some (aI s.1), some (aI s.2.1), some (aI s.2.2), none]) (fun s => h) (fun k s Hk H => okb_X12_askWhere_8 v0 h (fun v1q v2q v3q => k (v1q, v2q, v3q)) s.1 s.2.1 s.2.2  (fun v1q v2q v3q H => Hk (v1q, v2q, v3q) H) H) FUEL (v1, v2, v3) H
def m_X12_askWhere (v0 : Nat) (h : Hp) : Option Int32 :=
  l_X12_askWhere_8 v0 h (-1 : Int32) (1000000 : Int32) (0 : Int32)
set_option maxRecDepth 20000 in
theorem ok_X12_askWhere {r : Int32} {v0 : Nat} {h : Hp} (H : m_X12_askWhere v0 h = some r) : Ev M_X12_askWhere [aA v0] h (some (aI r), h) := by
  show Go M_X12_askWhere (some (aI r), h) 0 [some (aA v0), none, none, none, none] [] h
  unfold m_X12_askWhere at H
  refine go_iconst (v := (-1 : Int32)) dX12_askWhere_0 rfl ?_
  refine go_istoren (loc2 := [some (aA v0), some (aI (-1 : Int32)), none, none, none]) dX12_askWhere_1 rfl (by decide) rfl ?_
  refine go_ldcw (v := (1000000 : Int32)) tw1795 dX12_askWhere_2 ?_
  refine go_istoren (loc2 := [some (aA v0), some (aI (-1 : Int32)), some (aI (1000000 : Int32)), none, none]) dX12_askWhere_5 rfl (by decide) rfl ?_
  refine go_iconst (v := (0 : Int32)) dX12_askWhere_6 rfl ?_
  refine go_istoren (loc2 := [some (aA v0), some (aI (-1 : Int32)), some (aI (1000000 : Int32)), some (aI (0 : Int32)), none]) dX12_askWhere_7 rfl (by decide) rfl ?_
  exact okl_X12_askWhere_8 v0 h (-1 : Int32) (1000000 : Int32) (0 : Int32) H
/-! X12_fits -/
def m_X12_fits (v0 : Nat) (v1 : Int32) (v2 : Int32) (v3 : Int32) (h : Hp) : Option (Int32 × Hp) :=
  (pfI h v0 12 0 (0 : Int32)).bind fun hh1 => (rc hh1 v0 12 (m_X12_hasHunt v0 v2 hh1)).bind fun x1 => if x1.1 = 0 then (some ((-2 : Int32), x1.2)) else (rc x1.2 v0 12 (m_X12_hand v0 v1 x1.2)).bind fun x2 => if ¬ x2.1 = 0 then ((rc x2.2 v0 12 (m_X12_findWords v0 (v3 - (10 : Int32)) x2.2)).bind fun x3 => if v3 < (10 : Int32) then (if v3 = (0 : Int32) then ((gfI x3 v0 12 31).bind fun x4 => some (x4, x3)) else if v3 = (1 : Int32) then ((rc x3 v0 12 (m_X12_sureLetter v0 x3)).bind fun x5 => some (x5, x3)) else if v3 = (2 : Int32) then ((rc x3 v0 12 (m_X12_askWhere v0 x3)).bind fun x6 => some (x6, x3)) else some ((-2 : Int32), x3)) else (gfI x3 v0 12 32).bind fun x7 => some (x7, x3)) else some ((-2 : Int32), x2.2)
set_option maxRecDepth 20000 in
theorem ok_X12_fits {r : (Int32 × Hp)} {v0 : Nat} {v1 : Int32} {v2 : Int32} {v3 : Int32} {h : Hp} (H : m_X12_fits v0 v1 v2 v3 h = some r) : Ev M_X12_fits [aA v0, aI v1, aI v2, aI v3] h (some (aI r.1), r.2) := by
  show Go M_X12_fits (some (aI r.1), r.2) 0 [some (aA v0), some (aI v1), some (aI v2), some (aI v3)] [] h
  unfold m_X12_fits at H
  refine go_aloadn dX12_fits_0 rfl ?_
  refine go_iconst (v := (0 : Int32)) dX12_fits_1 rfl ?_
  refine gm_putI fd_X12_60 (Or.inl rfl) dX12_fits_2 H (fun hh1 H => ?_)
  refine go_aloadn dX12_fits_5 rfl ?_
  refine go_iloadn dX12_fits_6 rfl ?_
  obtain ⟨c1, x1, ex1, H⟩ := gm_rc H
  refine go_callV (vs := [aI v2]) (stk := []) (o1 := (some (aI x1.1), x1.2)) mk_X12_hasHunt sv_X12_fits_431 cl_X12 rfl dX12_fits_7 c1 rfl rfl (Nat.le_of_ble_eq_true rfl) (Nat.le_of_ble_eq_true rfl) (ok_X12_hasHunt ex1) (show Go M_X12_fits (some (aI r.1), r.2) 10 [some (aA v0), some (aI v1), some (aI v2), some (aI v3)] [aI x1.1] x1.2 from ?_)
  refine go_if_eq (tgt := 21) dX12_fits_10 (by decide) (fun c2 => ?_) (fun c2 => ?_)
  · replace H := (gm_ite H).1 c2
    refine go_bipush (v := (-2 : Int32)) dX12_fits_21 rfl ?_
    obtain rfl := Option.some.inj H
    exact go_ireturn dX12_fits_23 (tyI_int rfl)
  · replace H := (gm_ite H).2 c2
    refine go_aloadn dX12_fits_13 rfl ?_
    refine go_iloadn dX12_fits_14 rfl ?_
    obtain ⟨c3, x2, ex2, H⟩ := gm_rc H
    refine go_callV (vs := [aI v1]) (stk := []) (o1 := (some (aI x2.1), x2.2)) mk_X12_hand sv_X12_fits_313 cl_X12 rfl dX12_fits_15 c3 rfl rfl (Nat.le_of_ble_eq_true rfl) (Nat.le_of_ble_eq_true rfl) (ok_X12_hand ex2) (show Go M_X12_fits (some (aI r.1), r.2) 18 [some (aA v0), some (aI v1), some (aI v2), some (aI v3)] [aI x2.1] x2.2 from ?_)
    refine go_if_ne (tgt := 24) dX12_fits_18 (by decide) (fun c4 => ?_) (fun c4 => ?_)
    · replace H := (gm_ite H).1 c4
      refine go_aloadn dX12_fits_24 rfl ?_
      refine go_iloadn dX12_fits_25 rfl ?_
      refine go_bipush (v := (10 : Int32)) dX12_fits_26 rfl ?_
      refine go_isub dX12_fits_28 ?_
      obtain ⟨c5, x3, ex3, H⟩ := gm_rc H
      refine go_callV (vs := [aI (v3 - (10 : Int32))]) (stk := []) (o1 := (none, x3)) mk_X12_findWords sv_X12_fits_455 cl_X12 rfl dX12_fits_29 c5 rfl rfl (Nat.le_of_ble_eq_true rfl) (Nat.le_of_ble_eq_true rfl) (ok_X12_findWords ex3) (show Go M_X12_fits (some (aI r.1), r.2) 32 [some (aA v0), some (aI v1), some (aI v2), some (aI v3)] [] x3 from ?_)
      refine go_iloadn dX12_fits_32 rfl ?_
      refine go_bipush (v := (10 : Int32)) dX12_fits_33 rfl ?_
      refine go_icmp_lt (tgt := 43) dX12_fits_35 (by decide) (fun c6 => ?_) (fun c6 => ?_)
      · replace H := (gm_ite H).1 c6
        refine go_iloadn dX12_fits_43 rfl ?_
        by_cases c7 : v3 = (0 : Int32)
        · replace H := (gm_ite H).1 c7
          refine go_eqI c7 ?_
          refine go_tableIn (tgt := 72) dX12_fits_44 (by decide) (by decide) rfl (by decide) ?_
          refine go_aloadn dX12_fits_72 rfl ?_
          refine gm_getI fd_X12_440 dX12_fits_73 H (fun x4 H => ?_)
          obtain rfl := Option.some.inj H
          exact go_ireturn dX12_fits_76 (tyI_int rfl)
        · replace H := (gm_ite H).2 c7
          by_cases c8 : v3 = (1 : Int32)
          · replace H := (gm_ite H).1 c8
            refine go_eqI c8 ?_
            refine go_tableIn (tgt := 77) dX12_fits_44 (by decide) (by decide) rfl (by decide) ?_
            refine go_aloadn dX12_fits_77 rfl ?_
            obtain ⟨c9, x5, ex5, H⟩ := gm_rc H
            refine go_callV (vs := []) (stk := []) (o1 := (some (aI x5), x3)) mk_X12_sureLetter sv_X12_fits_458 cl_X12 rfl dX12_fits_78 c9 rfl rfl (Nat.le_of_ble_eq_true rfl) (Nat.le_of_ble_eq_true rfl) (ok_X12_sureLetter ex5) (show Go M_X12_fits (some (aI r.1), r.2) 81 [some (aA v0), some (aI v1), some (aI v2), some (aI v3)] [aI x5] x3 from ?_)
            obtain rfl := Option.some.inj H
            exact go_ireturn dX12_fits_81 (tyI_int rfl)
          · replace H := (gm_ite H).2 c8
            by_cases c10 : v3 = (2 : Int32)
            · replace H := (gm_ite H).1 c10
              refine go_eqI c10 ?_
              refine go_tableIn (tgt := 82) dX12_fits_44 (by decide) (by decide) rfl (by decide) ?_
              refine go_aloadn dX12_fits_82 rfl ?_
              obtain ⟨c11, x6, ex6, H⟩ := gm_rc H
              refine go_callV (vs := []) (stk := []) (o1 := (some (aI x6), x3)) mk_X12_askWhere sv_X12_fits_461 cl_X12 rfl dX12_fits_83 c11 rfl rfl (Nat.le_of_ble_eq_true rfl) (Nat.le_of_ble_eq_true rfl) (ok_X12_askWhere ex6) (show Go M_X12_fits (some (aI r.1), r.2) 86 [some (aA v0), some (aI v1), some (aI v2), some (aI v3)] [aI x6] x3 from ?_)
              obtain rfl := Option.some.inj H
              exact go_ireturn dX12_fits_86 (tyI_int rfl)
            · replace H := (gm_ite H).2 c10
              refine go_tableOut (tgt := 87) dX12_fits_44 (sw_out (fun i h1 h2 e => ?_)) (by decide) ?_
              · have h3 : i = 0 ∨ i = 1 ∨ i = 2 := by omega
                rcases h3 with rfl | rfl | rfl
                · exact sw_ne c7 (by decide) e
                · exact sw_ne c8 (by decide) e
                · exact sw_ne c10 (by decide) e
              · skip
                refine go_bipush (v := (-2 : Int32)) dX12_fits_87 rfl ?_
                obtain rfl := Option.some.inj H
                exact go_ireturn dX12_fits_89 (tyI_int rfl)
      · replace H := (gm_ite H).2 c6
        refine go_aloadn dX12_fits_38 rfl ?_
        refine gm_getI fd_X12_443 dX12_fits_39 H (fun x7 H => ?_)
        obtain rfl := Option.some.inj H
        exact go_ireturn dX12_fits_42 (tyI_int rfl)
    · replace H := (gm_ite H).2 c4
      refine go_bipush (v := (-2 : Int32)) dX12_fits_21 rfl ?_
      obtain rfl := Option.some.inj H
      exact go_ireturn dX12_fits_23 (tyI_int rfl)
/-! X1_below -/
def j_X1_below_32  (s0 : Int32) (h : Hp) : Option (Int32 × Hp) :=
  some (s0, h)
set_option maxRecDepth 20000 in
theorem okj_X1_below_32 {r : (Int32 × Hp)}  (s0 : Int32) (h : Hp) (H : j_X1_below_32 s0 h = some r) : Go M_X1_below (some (aI r.1), r.2) 32 [none, none] [aI s0] h := by
  unfold j_X1_below_32 at H
  obtain rfl := Option.some.inj H
  exact go_ireturn dX1_below_32 (tyI_int rfl)
def m_X1_below (v0 : Nat) (v1 : Int32) (h : Hp) : Option (Int32 × Hp) :=
  (gfI h v0 2 2).bind fun x1 => (pfI h v0 2 2 ((x1 * (1103515245 : Int32)) + (12345 : Int32))).bind fun hh1 => if v1 ≤ 0 then j_X1_below_32 (0 : Int32) hh1 else (gfI hh1 v0 2 2).bind fun x2 => (rmI (iushrF x2 (16 : Int32)) v1).bind fun x3 => j_X1_below_32 x3 hh1
set_option maxRecDepth 20000 in
theorem ok_X1_below {r : (Int32 × Hp)} {v0 : Nat} {v1 : Int32} {h : Hp} (H : m_X1_below v0 v1 h = some r) : Ev M_X1_below [aA v0, aI v1] h (some (aI r.1), r.2) := by
  show Go M_X1_below (some (aI r.1), r.2) 0 [some (aA v0), some (aI v1)] [] h
  unfold m_X1_below at H
  refine go_aloadn dX1_below_0 rfl ?_
  refine go_aloadn dX1_below_1 rfl ?_
  refine gm_getI fd_X1_22 dX1_below_2 H (fun x1 H => ?_)
  refine go_ldc (v := (1103515245 : Int32)) tw1301 dX1_below_5 ?_
  refine go_imul dX1_below_7 ?_
  refine go_sipush (v := (12345 : Int32)) dX1_below_8 rfl ?_
  refine go_iadd dX1_below_11 ?_
  refine gm_putI fd_X1_22 (Or.inl rfl) dX1_below_12 H (fun hh1 H => ?_)
  refine go_iloadn dX1_below_15 rfl ?_
  refine go_if_le (tgt := 31) dX1_below_16 (by decide) (fun c1 => ?_) (fun c1 => ?_)
  · replace H := (gm_ite H).1 c1
    refine go_iconst (v := (0 : Int32)) dX1_below_31 rfl ?_
    refine go_mask [false, false] (loc' := [none, none]) rfl ?_
    exact okj_X1_below_32 (0 : Int32) hh1  H
  · replace H := (gm_ite H).2 c1
    refine go_aloadn dX1_below_19 rfl ?_
    refine gm_getI fd_X1_22 dX1_below_20 H (fun x2 H => ?_)
    refine go_bipush (v := (16 : Int32)) dX1_below_23 rfl ?_
    refine go_iushr dX1_below_25 ?_
    refine go_iloadn dX1_below_26 rfl ?_
    refine gm_irem dX1_below_27 H (fun x3 H => ?_)
    refine go_goto (tgt := 32) dX1_below_28 (by decide) ?_
    refine go_mask [false, false] (loc' := [none, none]) rfl ?_
    exact okj_X1_below_32 x3 hh1  H
/-! X1_mayGoOn -/
def j_X1_mayGoOn_18  (s0 : Int32) (h : Hp) : Option Int32 :=
  (zb s0).bind fun x1 => some x1
set_option maxRecDepth 20000 in
theorem okj_X1_mayGoOn_18 {r : Int32}  (s0 : Int32) (h : Hp) (H : j_X1_mayGoOn_18 s0 h = some r) : Go M_X1_mayGoOn (some (aI r), h) 18 [none, none] [aI s0] h := by
  unfold j_X1_mayGoOn_18 at H
  obtain ⟨hz, H⟩ := gm_zb H
  obtain rfl := Option.some.inj H
  exact go_ireturn (x := s0) dX1_mayGoOn_18 (tyI_bool rfl hz)
def m_X1_mayGoOn (v0 : Nat) (v1 : Int32) (h : Hp) : Option Int32 :=
  (gfR h v0 2 0).bind fun x1 => (rc h x1 1 (m_X0_versionsOf x1 v1 h)).bind fun x2 => j_X1_mayGoOn_18 (if (10 : Int32) ≤ x2 then (0 : Int32) else (1 : Int32)) h
set_option maxRecDepth 20000 in
theorem ok_X1_mayGoOn {r : Int32} {v0 : Nat} {v1 : Int32} {h : Hp} (H : m_X1_mayGoOn v0 v1 h = some r) : Ev M_X1_mayGoOn [aA v0, aI v1] h (some (aI r), h) := by
  show Go M_X1_mayGoOn (some (aI r), h) 0 [some (aA v0), some (aI v1)] [] h
  unfold m_X1_mayGoOn at H
  refine go_aloadn dX1_mayGoOn_0 rfl ?_
  refine gm_getR fd_X1_12 dX1_mayGoOn_1 H (fun x1 H => ?_)
  refine go_iloadn dX1_mayGoOn_4 rfl ?_
  obtain ⟨c1, x2, ex2, H⟩ := gm_rc H
  refine go_callV (vs := [aI v1]) (stk := []) (o1 := (some (aI x2), h)) mk_X0_versionsOf sv_X1_mayGoOn_61 cl_X0 rfl dX1_mayGoOn_5 c1 rfl rfl (Nat.le_of_ble_eq_true rfl) (Nat.le_of_ble_eq_true rfl) (ok_X0_versionsOf ex2) (show Go M_X1_mayGoOn (some (aI r), h) 8 [some (aA v0), some (aI v1)] [aI x2] h from ?_)
  refine go_bipush (v := (10 : Int32)) dX1_mayGoOn_8 rfl ?_
  refine go_icmp_ge (tgt := 17) dX1_mayGoOn_10 (by decide) (fun c2 => ?_) (fun c2 => ?_)
  · rw [if_pos c2] at H
    refine go_iconst (v := (0 : Int32)) dX1_mayGoOn_17 rfl ?_
    refine go_mask [false, false] (loc' := [none, none]) rfl ?_
    exact okj_X1_mayGoOn_18 (0 : Int32) h  H
  · rw [if_neg c2] at H
    refine go_iconst (v := (1 : Int32)) dX1_mayGoOn_13 rfl ?_
    refine go_goto (tgt := 18) dX1_mayGoOn_14 (by decide) ?_
    refine go_mask [false, false] (loc' := [none, none]) rfl ?_
    exact okj_X1_mayGoOn_18 (1 : Int32) h  H
/-! X1_cut -/
def m_X1_cut (v0 : Nat) (v1 : Int32) (h : Hp) : Option Hp :=
  (gfR h v0 2 0).bind fun x1 => (rc h x1 1 (m_X0_latestLength x1 v1 h)).bind fun x2 => (rc h v0 2 (m_X1_below v0 x2 h)).bind fun x3 => (rc x3.2 v0 2 (m_X1_mayGoOn v0 v1 x3.2)).bind fun x4 => if x4 = 0 then (some x3.2) else (gfR x3.2 v0 2 0).bind fun x5 => (rc x3.2 x5 1 (m_X0_cutWords x5 v1 x3.1 (1 : Int32) (-1 : Int32) x3.2)).bind fun x6 => some x6
set_option maxRecDepth 20000 in
theorem ok_X1_cut {r : Hp} {v0 : Nat} {v1 : Int32} {h : Hp} (H : m_X1_cut v0 v1 h = some r) : Ev M_X1_cut [aA v0, aI v1] h (none, r) := by
  show Go M_X1_cut (none, r) 0 [some (aA v0), some (aI v1), none] [] h
  unfold m_X1_cut at H
  refine go_aloadn dX1_cut_0 rfl ?_
  refine go_aloadn dX1_cut_1 rfl ?_
  refine gm_getR fd_X1_12 dX1_cut_2 H (fun x1 H => ?_)
  refine go_iloadn dX1_cut_5 rfl ?_
  obtain ⟨c1, x2, ex2, H⟩ := gm_rc H
  refine go_callV (vs := [aI v1]) (stk := [aA v0]) (o1 := (some (aI x2), h)) mk_X0_latestLength sv_X1_cut_42 cl_X0 rfl dX1_cut_6 c1 rfl rfl (Nat.le_of_ble_eq_true rfl) (Nat.le_of_ble_eq_true rfl) (ok_X0_latestLength ex2) (show Go M_X1_cut (none, r) 9 [some (aA v0), some (aI v1), none] [aI x2, aA v0] h from ?_)
  obtain ⟨c2, x3, ex3, H⟩ := gm_rc H
  refine go_callV (vs := [aI x2]) (stk := []) (o1 := (some (aI x3.1), x3.2)) mk_X1_below sv_X1_cut_33 cl_X1 rfl dX1_cut_9 c2 rfl rfl (Nat.le_of_ble_eq_true rfl) (Nat.le_of_ble_eq_true rfl) (ok_X1_below ex3) (show Go M_X1_cut (none, r) 12 [some (aA v0), some (aI v1), none] [aI x3.1] x3.2 from ?_)
  refine go_istoren (loc2 := [some (aA v0), some (aI v1), some (aI x3.1)]) dX1_cut_12 rfl (by decide) rfl ?_
  refine go_aloadn dX1_cut_13 rfl ?_
  refine go_iloadn dX1_cut_14 rfl ?_
  obtain ⟨c3, x4, ex4, H⟩ := gm_rc H
  refine go_callV (vs := [aI v1]) (stk := []) (o1 := (some (aI x4), x3.2)) mk_X1_mayGoOn sv_X1_cut_64 cl_X1 rfl dX1_cut_15 c3 rfl rfl (Nat.le_of_ble_eq_true rfl) (Nat.le_of_ble_eq_true rfl) (ok_X1_mayGoOn ex4) (show Go M_X1_cut (none, r) 18 [some (aA v0), some (aI v1), some (aI x3.1)] [aI x4] x3.2 from ?_)
  refine go_if_eq (tgt := 32) dX1_cut_18 (by decide) (fun c4 => ?_) (fun c4 => ?_)
  · replace H := (gm_ite H).1 c4
    obtain rfl := Option.some.inj H
    exact go_return dX1_cut_32 rfl
  · replace H := (gm_ite H).2 c4
    refine go_aloadn dX1_cut_21 rfl ?_
    refine gm_getR fd_X1_12 dX1_cut_22 H (fun x5 H => ?_)
    refine go_iloadn dX1_cut_25 rfl ?_
    refine go_iloadn dX1_cut_26 rfl ?_
    refine go_iconst (v := (1 : Int32)) dX1_cut_27 rfl ?_
    refine go_iconst (v := (-1 : Int32)) dX1_cut_28 rfl ?_
    obtain ⟨c5, x6, ex6, H⟩ := gm_rc H
    refine go_callV (vs := [aI v1, aI x3.1, aI (1 : Int32), aI (-1 : Int32)]) (stk := []) (o1 := (none, x6)) mk_X0_cutWords sv_X1_cut_68 cl_X0 rfl dX1_cut_29 c5 rfl rfl (Nat.le_of_ble_eq_true rfl) (Nat.le_of_ble_eq_true rfl) (ok_X0_cutWords ex6) (show Go M_X1_cut (none, r) 32 [some (aA v0), some (aI v1), some (aI x3.1)] [] x6 from ?_)
    obtain rfl := Option.some.inj H
    exact go_return dX1_cut_32 rfl
/-! X0_firstTokenOf -/
def b_X0_firstTokenOf_2 (v0 : Nat) (v1 : Int32) (h : Hp) (k : Int32 → Option Int32) (v2 : Int32) : Option Int32 :=
  (gfI h v0 1 1).bind fun x1 => if x1 ≤ v2 then (some (-1 : Int32)) else (rc h v0 1 (m_X0_ownerOf v0 v2 h)).bind fun x2 => if ¬ x2 = v1 then (k (v2 + (1 : Int32))) else some v2
set_option maxRecDepth 20000 in
theorem okb_X0_firstTokenOf_2 {r : Int32} (v0 : Nat) (v1 : Int32) (h : Hp) (k : Int32 → Option Int32) (v2 : Int32) (Hk : ∀ (v2q : Int32), k v2q = some r → Go M_X0_firstTokenOf (some (aI r), h) 2 [some (aA v0), some (aI v1), some (aI v2q)] [] h) (H : b_X0_firstTokenOf_2 v0 v1 h k v2 = some r) : Go M_X0_firstTokenOf (some (aI r), h) 2 [some (aA v0), some (aI v1), some (aI v2)] [] h := by
  unfold b_X0_firstTokenOf_2 at H
  refine go_iloadn dX0_firstTokenOf_2 rfl ?_
  refine go_aloadn dX0_firstTokenOf_3 rfl ?_
  refine gm_getI fd_X0_15 dX0_firstTokenOf_4 H (fun x1 H => ?_)
  refine go_icmp_ge (tgt := 27) dX0_firstTokenOf_7 (by decide) (fun c1 => ?_) (fun c1 => ?_)
  · replace H := (gm_ite H).1 c1
    refine go_iconst (v := (-1 : Int32)) dX0_firstTokenOf_27 rfl ?_
    obtain rfl := Option.some.inj H
    exact go_ireturn dX0_firstTokenOf_28 (tyI_int rfl)
  · replace H := (gm_ite H).2 c1
    refine go_aloadn dX0_firstTokenOf_10 rfl ?_
    refine go_iloadn dX0_firstTokenOf_11 rfl ?_
    obtain ⟨c2, x2, ex2, H⟩ := gm_rc H
    refine go_callV (vs := [aI v2]) (stk := []) (o1 := (some (aI x2), h)) mk_X0_ownerOf sv_X0_firstTokenOf_105 cl_X0 rfl dX0_firstTokenOf_12 c2 rfl rfl (Nat.le_of_ble_eq_true rfl) (Nat.le_of_ble_eq_true rfl) (ok_X0_ownerOf ex2) (show Go M_X0_firstTokenOf (some (aI r), h) 15 [some (aA v0), some (aI v1), some (aI v2)] [aI x2] h from ?_)
    refine go_iloadn dX0_firstTokenOf_15 rfl ?_
    refine go_icmp_ne (tgt := 21) dX0_firstTokenOf_16 (by decide) (fun c3 => ?_) (fun c3 => ?_)
    · replace H := (gm_ite H).1 c3
      refine go_iinc (v := (v2 + (1 : Int32))) (loc2 := [some (aA v0), some (aI v1), some (aI (v2 + (1 : Int32)))]) dX0_firstTokenOf_21 rfl rfl (by decide) rfl ?_
      refine go_goto (tgt := 2) dX0_firstTokenOf_24 (by decide) ?_
      exact Hk (v2 + (1 : Int32)) H
    · replace H := (gm_ite H).2 c3
      refine go_iloadn dX0_firstTokenOf_19 rfl ?_
      obtain rfl := Option.some.inj H
      exact go_ireturn dX0_firstTokenOf_20 (tyI_int rfl)
def l_X0_firstTokenOf_2 (v0 : Nat) (v1 : Int32) (h : Hp) (v2 : Int32) : Option Int32 := loopK FUEL (fun (k : Int32 → Option Int32) (s : Int32) => b_X0_firstTokenOf_2 v0 v1 h (fun v2q => k v2q) s) v2
theorem okl_X0_firstTokenOf_2 {r : Int32} (v0 : Nat) (v1 : Int32) (h : Hp) (v2 : Int32) (H : l_X0_firstTokenOf_2 v0 v1 h v2 = some r) : Go M_X0_firstTokenOf (some (aI r), h) 2 [some (aA v0), some (aI v1), some (aI v2)] [] h := by
  unfold l_X0_firstTokenOf_2 at H
  exact go_loop (σ := Int32) (body := (fun (k : Int32 → Option Int32) (s : Int32) => b_X0_firstTokenOf_2 v0 v1 h (fun v2q => k v2q) s)) (fun s => [some (aA v0), some (aI v1), some (aI s)]) (fun s => h) (fun k s Hk H => okb_X0_firstTokenOf_2 v0 v1 h (fun v2q => k v2q) s  (fun v2q H => Hk v2q H) H) FUEL v2 H
def m_X0_firstTokenOf (v0 : Nat) (v1 : Int32) (h : Hp) : Option Int32 :=
  l_X0_firstTokenOf_2 v0 v1 h (0 : Int32)
set_option maxRecDepth 20000 in
theorem ok_X0_firstTokenOf {r : Int32} {v0 : Nat} {v1 : Int32} {h : Hp} (H : m_X0_firstTokenOf v0 v1 h = some r) : Ev M_X0_firstTokenOf [aA v0, aI v1] h (some (aI r), h) := by
  show Go M_X0_firstTokenOf (some (aI r), h) 0 [some (aA v0), some (aI v1), none] [] h
  unfold m_X0_firstTokenOf at H
  refine go_iconst (v := (0 : Int32)) dX0_firstTokenOf_0 rfl ?_
  refine go_istoren (loc2 := [some (aA v0), some (aI v1), some (aI (0 : Int32))]) dX0_firstTokenOf_1 rfl (by decide) rfl ?_
  exact okl_X0_firstTokenOf_2 v0 v1 h (0 : Int32) H
/-! X1_put -/
def m_X1_put (v0 : Nat) (v1 : Int32) (h : Hp) : Option Hp :=
  (gfR h v0 2 0).bind fun x1 => (rc h x1 1 (m_X0_latestLength x1 v1 h)).bind fun x2 => (rc h v0 2 (m_X1_below v0 (x2 + (1 : Int32)) h)).bind fun x3 => (rc x3.2 v0 2 (m_X1_mayGoOn v0 v1 x3.2)).bind fun x4 => if x4 = 0 then (some x3.2) else if (20 : Int32) ≤ x2 then (some x3.2) else (gfR x3.2 v0 2 1).bind fun x5 => (gfR x3.2 v0 2 0).bind fun x6 => (gfR x3.2 x6 1 7).bind fun x7 => (gfR x3.2 v0 2 0).bind fun x8 => (rc x3.2 x8 1 (m_X0_firstTokenOf x8 v1 x3.2)).bind fun x9 => (m_X5_at x7 x9 x3.2).bind fun x10 => (m_X5_set x5 (0 : Int32) x10 x3.2).bind fun x11 => (gfR x11 v0 2 0).bind fun x12 => (gfR x11 v0 2 1).bind fun x13 => (rc x11 x12 1 (m_X0_putWords x12 v1 x3.1 x13 (1 : Int32) (-1 : Int32) x11)).bind fun x14 => some x14
set_option maxRecDepth 20000 in
theorem ok_X1_put {r : Hp} {v0 : Nat} {v1 : Int32} {h : Hp} (H : m_X1_put v0 v1 h = some r) : Ev M_X1_put [aA v0, aI v1] h (none, r) := by
  show Go M_X1_put (none, r) 0 [some (aA v0), some (aI v1), none, none] [] h
  unfold m_X1_put at H
  refine go_aloadn dX1_put_0 rfl ?_
  refine gm_getR fd_X1_12 dX1_put_1 H (fun x1 H => ?_)
  refine go_iloadn dX1_put_4 rfl ?_
  obtain ⟨c1, x2, ex2, H⟩ := gm_rc H
  refine go_callV (vs := [aI v1]) (stk := []) (o1 := (some (aI x2), h)) mk_X0_latestLength sv_X1_put_42 cl_X0 rfl dX1_put_5 c1 rfl rfl (Nat.le_of_ble_eq_true rfl) (Nat.le_of_ble_eq_true rfl) (ok_X0_latestLength ex2) (show Go M_X1_put (none, r) 8 [some (aA v0), some (aI v1), none, none] [aI x2] h from ?_)
  refine go_istoren (loc2 := [some (aA v0), some (aI v1), some (aI x2), none]) dX1_put_8 rfl (by decide) rfl ?_
  refine go_aloadn dX1_put_9 rfl ?_
  refine go_iloadn dX1_put_10 rfl ?_
  refine go_iconst (v := (1 : Int32)) dX1_put_11 rfl ?_
  refine go_iadd dX1_put_12 ?_
  obtain ⟨c2, x3, ex3, H⟩ := gm_rc H
  refine go_callV (vs := [aI (x2 + (1 : Int32))]) (stk := []) (o1 := (some (aI x3.1), x3.2)) mk_X1_below sv_X1_put_33 cl_X1 rfl dX1_put_13 c2 rfl rfl (Nat.le_of_ble_eq_true rfl) (Nat.le_of_ble_eq_true rfl) (ok_X1_below ex3) (show Go M_X1_put (none, r) 16 [some (aA v0), some (aI v1), some (aI x2), none] [aI x3.1] x3.2 from ?_)
  refine go_istoren (loc2 := [some (aA v0), some (aI v1), some (aI x2), some (aI x3.1)]) dX1_put_16 rfl (by decide) rfl ?_
  refine go_aloadn dX1_put_17 rfl ?_
  refine go_iloadn dX1_put_18 rfl ?_
  obtain ⟨c3, x4, ex4, H⟩ := gm_rc H
  refine go_callV (vs := [aI v1]) (stk := []) (o1 := (some (aI x4), x3.2)) mk_X1_mayGoOn sv_X1_put_64 cl_X1 rfl dX1_put_19 c3 rfl rfl (Nat.le_of_ble_eq_true rfl) (Nat.le_of_ble_eq_true rfl) (ok_X1_mayGoOn ex4) (show Go M_X1_put (none, r) 22 [some (aA v0), some (aI v1), some (aI x2), some (aI x3.1)] [aI x4] x3.2 from ?_)
  refine go_if_eq (tgt := 72) dX1_put_22 (by decide) (fun c4 => ?_) (fun c4 => ?_)
  · replace H := (gm_ite H).1 c4
    obtain rfl := Option.some.inj H
    exact go_return dX1_put_72 rfl
  · replace H := (gm_ite H).2 c4
    refine go_iloadn dX1_put_25 rfl ?_
    refine go_bipush (v := (20 : Int32)) dX1_put_26 rfl ?_
    refine go_icmp_ge (tgt := 72) dX1_put_28 (by decide) (fun c5 => ?_) (fun c5 => ?_)
    · replace H := (gm_ite H).1 c5
      obtain rfl := Option.some.inj H
      exact go_return dX1_put_72 rfl
    · replace H := (gm_ite H).2 c5
      refine go_aloadn dX1_put_31 rfl ?_
      refine gm_getR fd_X1_18 dX1_put_32 H (fun x5 H => ?_)
      refine go_iconst (v := (0 : Int32)) dX1_put_35 rfl ?_
      refine go_aloadn dX1_put_36 rfl ?_
      refine gm_getR fd_X1_12 dX1_put_37 H (fun x6 H => ?_)
      refine gm_getR fd_X1_72 dX1_put_40 H (fun x7 H => ?_)
      refine go_aloadn dX1_put_43 rfl ?_
      refine gm_getR fd_X1_12 dX1_put_44 H (fun x8 H => ?_)
      refine go_iloadn dX1_put_47 rfl ?_
      obtain ⟨c6, x9, ex9, H⟩ := gm_rc H
      refine go_callV (vs := [aI v1]) (stk := [aA x7, aI (0 : Int32), aA x5]) (o1 := (some (aI x9), x3.2)) mk_X0_firstTokenOf sv_X1_put_49 cl_X0 rfl dX1_put_48 c6 rfl rfl (Nat.le_of_ble_eq_true rfl) (Nat.le_of_ble_eq_true rfl) (ok_X0_firstTokenOf ex9) (show Go M_X1_put (none, r) 51 [some (aA v0), some (aI v1), some (aI x2), some (aI x3.1)] [aI x9, aA x7, aI (0 : Int32), aA x5] x3.2 from ?_)
      obtain ⟨x10, ex10, H⟩ := bind_some H
      refine go_callS (vs := [aA x7, aI x9]) (stk := [aI (0 : Int32), aA x5]) (o1 := (some (aI x10), x3.2)) mk_X5_at ss_X1_put_75 dX1_put_51 rfl rfl (Nat.le_of_ble_eq_true rfl) (Nat.le_of_ble_eq_true rfl) (ok_X5_at ex10) (show Go M_X1_put (none, r) 54 [some (aA v0), some (aI v1), some (aI x2), some (aI x3.1)] [aI x10, aI (0 : Int32), aA x5] x3.2 from ?_)
      obtain ⟨x11, ex11, H⟩ := bind_some H
      refine go_callS (vs := [aA x5, aI (0 : Int32), aI x10]) (stk := []) (o1 := (none, x11)) mk_X5_set ss_X1_put_81 dX1_put_54 rfl rfl (Nat.le_of_ble_eq_true rfl) (Nat.le_of_ble_eq_true rfl) (ok_X5_set ex11) (show Go M_X1_put (none, r) 57 [some (aA v0), some (aI v1), some (aI x2), some (aI x3.1)] [] x11 from ?_)
      refine go_aloadn dX1_put_57 rfl ?_
      refine gm_getR fd_X1_12 dX1_put_58 H (fun x12 H => ?_)
      refine go_iloadn dX1_put_61 rfl ?_
      refine go_iloadn dX1_put_62 rfl ?_
      refine go_aloadn dX1_put_63 rfl ?_
      refine gm_getR fd_X1_18 dX1_put_64 H (fun x13 H => ?_)
      refine go_iconst (v := (1 : Int32)) dX1_put_67 rfl ?_
      refine go_iconst (v := (-1 : Int32)) dX1_put_68 rfl ?_
      obtain ⟨c9, x14, ex14, H⟩ := gm_rc H
      refine go_callV (vs := [aI v1, aI x3.1, aA x13, aI (1 : Int32), aI (-1 : Int32)]) (stk := []) (o1 := (none, x14)) mk_X0_putWords sv_X1_put_85 cl_X0 rfl dX1_put_69 c9 rfl rfl (Nat.le_of_ble_eq_true rfl) (Nat.le_of_ble_eq_true rfl) (ok_X0_putWords ex14) (show Go M_X1_put (none, r) 72 [some (aA v0), some (aI v1), some (aI x2), some (aI x3.1)] [] x14 from ?_)
      obtain rfl := Option.some.inj H
      exact go_return dX1_put_72 rfl
/-! X1_move -/
def m_X1_move (v0 : Nat) (v1 : Int32) (h : Hp) : Option Hp :=
  (gfR h v0 2 0).bind fun x1 => (rc h x1 1 (m_X0_latestLength x1 v1 h)).bind fun x2 => (rc h v0 2 (m_X1_below v0 x2 h)).bind fun x3 => (rc x3.2 v0 2 (m_X1_below v0 x2 x3.2)).bind fun x4 => (rc x4.2 v0 2 (m_X1_mayGoOn v0 v1 x4.2)).bind fun x5 => if x5 = 0 then (some x4.2) else (gfR x4.2 v0 2 0).bind fun x6 => (rc x4.2 x6 1 (m_X0_moveWord x6 v1 x3.1 x4.1 (-1 : Int32) x4.2)).bind fun x7 => some x7
set_option maxRecDepth 20000 in
theorem ok_X1_move {r : Hp} {v0 : Nat} {v1 : Int32} {h : Hp} (H : m_X1_move v0 v1 h = some r) : Ev M_X1_move [aA v0, aI v1] h (none, r) := by
  show Go M_X1_move (none, r) 0 [some (aA v0), some (aI v1), none, none, none] [] h
  unfold m_X1_move at H
  refine go_aloadn dX1_move_0 rfl ?_
  refine gm_getR fd_X1_12 dX1_move_1 H (fun x1 H => ?_)
  refine go_iloadn dX1_move_4 rfl ?_
  obtain ⟨c1, x2, ex2, H⟩ := gm_rc H
  refine go_callV (vs := [aI v1]) (stk := []) (o1 := (some (aI x2), h)) mk_X0_latestLength sv_X1_move_42 cl_X0 rfl dX1_move_5 c1 rfl rfl (Nat.le_of_ble_eq_true rfl) (Nat.le_of_ble_eq_true rfl) (ok_X0_latestLength ex2) (show Go M_X1_move (none, r) 8 [some (aA v0), some (aI v1), none, none, none] [aI x2] h from ?_)
  refine go_istoren (loc2 := [some (aA v0), some (aI v1), some (aI x2), none, none]) dX1_move_8 rfl (by decide) rfl ?_
  refine go_aloadn dX1_move_9 rfl ?_
  refine go_iloadn dX1_move_10 rfl ?_
  obtain ⟨c2, x3, ex3, H⟩ := gm_rc H
  refine go_callV (vs := [aI x2]) (stk := []) (o1 := (some (aI x3.1), x3.2)) mk_X1_below sv_X1_move_33 cl_X1 rfl dX1_move_11 c2 rfl rfl (Nat.le_of_ble_eq_true rfl) (Nat.le_of_ble_eq_true rfl) (ok_X1_below ex3) (show Go M_X1_move (none, r) 14 [some (aA v0), some (aI v1), some (aI x2), none, none] [aI x3.1] x3.2 from ?_)
  refine go_istoren (loc2 := [some (aA v0), some (aI v1), some (aI x2), some (aI x3.1), none]) dX1_move_14 rfl (by decide) rfl ?_
  refine go_aloadn dX1_move_15 rfl ?_
  refine go_iloadn dX1_move_16 rfl ?_
  obtain ⟨c3, x4, ex4, H⟩ := gm_rc H
  refine go_callV (vs := [aI x2]) (stk := []) (o1 := (some (aI x4.1), x4.2)) mk_X1_below sv_X1_move_33 cl_X1 rfl dX1_move_17 c3 rfl rfl (Nat.le_of_ble_eq_true rfl) (Nat.le_of_ble_eq_true rfl) (ok_X1_below ex4) (show Go M_X1_move (none, r) 20 [some (aA v0), some (aI v1), some (aI x2), some (aI x3.1), none] [aI x4.1] x4.2 from ?_)
  refine go_istore (loc2 := [some (aA v0), some (aI v1), some (aI x2), some (aI x3.1), some (aI x4.1)]) dX1_move_20 (by decide) rfl ?_
  refine go_aloadn dX1_move_22 rfl ?_
  refine go_iloadn dX1_move_23 rfl ?_
  obtain ⟨c4, x5, ex5, H⟩ := gm_rc H
  refine go_callV (vs := [aI v1]) (stk := []) (o1 := (some (aI x5), x4.2)) mk_X1_mayGoOn sv_X1_move_64 cl_X1 rfl dX1_move_24 c4 rfl rfl (Nat.le_of_ble_eq_true rfl) (Nat.le_of_ble_eq_true rfl) (ok_X1_mayGoOn ex5) (show Go M_X1_move (none, r) 27 [some (aA v0), some (aI v1), some (aI x2), some (aI x3.1), some (aI x4.1)] [aI x5] x4.2 from ?_)
  refine go_if_eq (tgt := 42) dX1_move_27 (by decide) (fun c5 => ?_) (fun c5 => ?_)
  · replace H := (gm_ite H).1 c5
    obtain rfl := Option.some.inj H
    exact go_return dX1_move_42 rfl
  · replace H := (gm_ite H).2 c5
    refine go_aloadn dX1_move_30 rfl ?_
    refine gm_getR fd_X1_12 dX1_move_31 H (fun x6 H => ?_)
    refine go_iloadn dX1_move_34 rfl ?_
    refine go_iloadn dX1_move_35 rfl ?_
    refine go_iload dX1_move_36 rfl ?_
    refine go_iconst (v := (-1 : Int32)) dX1_move_38 rfl ?_
    obtain ⟨c6, x7, ex7, H⟩ := gm_rc H
    refine go_callV (vs := [aI v1, aI x3.1, aI x4.1, aI (-1 : Int32)]) (stk := []) (o1 := (none, x7)) mk_X0_moveWord sv_X1_move_89 cl_X0 rfl dX1_move_39 c6 rfl rfl (Nat.le_of_ble_eq_true rfl) (Nat.le_of_ble_eq_true rfl) (ok_X0_moveWord ex7) (show Go M_X1_move (none, r) 42 [some (aA v0), some (aI v1), some (aI x2), some (aI x3.1), some (aI x4.1)] [] x7 from ?_)
    obtain rfl := Option.some.inj H
    exact go_return dX1_move_42 rfl
/-! X1_back -/
def m_X1_back (v0 : Nat) (v1 : Int32) (h : Hp) : Option Hp :=
  (gfR h v0 2 0).bind fun x1 => (rc h x1 1 (m_X0_versionsOf x1 v1 h)).bind fun x2 => (rc h v0 2 (m_X1_below v0 x2 h)).bind fun x3 => (rc x3.2 v0 2 (m_X1_mayGoOn v0 v1 x3.2)).bind fun x4 => if x4 = 0 then (some x3.2) else (gfR x3.2 v0 2 0).bind fun x5 => (rc x3.2 x5 1 (m_X0_goBack x5 v1 x3.1 (-1 : Int32) x3.2)).bind fun x6 => some x6
set_option maxRecDepth 20000 in
theorem ok_X1_back {r : Hp} {v0 : Nat} {v1 : Int32} {h : Hp} (H : m_X1_back v0 v1 h = some r) : Ev M_X1_back [aA v0, aI v1] h (none, r) := by
  show Go M_X1_back (none, r) 0 [some (aA v0), some (aI v1), none] [] h
  unfold m_X1_back at H
  refine go_aloadn dX1_back_0 rfl ?_
  refine go_aloadn dX1_back_1 rfl ?_
  refine gm_getR fd_X1_12 dX1_back_2 H (fun x1 H => ?_)
  refine go_iloadn dX1_back_5 rfl ?_
  obtain ⟨c1, x2, ex2, H⟩ := gm_rc H
  refine go_callV (vs := [aI v1]) (stk := [aA v0]) (o1 := (some (aI x2), h)) mk_X0_versionsOf sv_X1_back_61 cl_X0 rfl dX1_back_6 c1 rfl rfl (Nat.le_of_ble_eq_true rfl) (Nat.le_of_ble_eq_true rfl) (ok_X0_versionsOf ex2) (show Go M_X1_back (none, r) 9 [some (aA v0), some (aI v1), none] [aI x2, aA v0] h from ?_)
  obtain ⟨c2, x3, ex3, H⟩ := gm_rc H
  refine go_callV (vs := [aI x2]) (stk := []) (o1 := (some (aI x3.1), x3.2)) mk_X1_below sv_X1_back_33 cl_X1 rfl dX1_back_9 c2 rfl rfl (Nat.le_of_ble_eq_true rfl) (Nat.le_of_ble_eq_true rfl) (ok_X1_below ex3) (show Go M_X1_back (none, r) 12 [some (aA v0), some (aI v1), none] [aI x3.1] x3.2 from ?_)
  refine go_istoren (loc2 := [some (aA v0), some (aI v1), some (aI x3.1)]) dX1_back_12 rfl (by decide) rfl ?_
  refine go_aloadn dX1_back_13 rfl ?_
  refine go_iloadn dX1_back_14 rfl ?_
  obtain ⟨c3, x4, ex4, H⟩ := gm_rc H
  refine go_callV (vs := [aI v1]) (stk := []) (o1 := (some (aI x4), x3.2)) mk_X1_mayGoOn sv_X1_back_64 cl_X1 rfl dX1_back_15 c3 rfl rfl (Nat.le_of_ble_eq_true rfl) (Nat.le_of_ble_eq_true rfl) (ok_X1_mayGoOn ex4) (show Go M_X1_back (none, r) 18 [some (aA v0), some (aI v1), some (aI x3.1)] [aI x4] x3.2 from ?_)
  refine go_if_eq (tgt := 31) dX1_back_18 (by decide) (fun c4 => ?_) (fun c4 => ?_)
  · replace H := (gm_ite H).1 c4
    obtain rfl := Option.some.inj H
    exact go_return dX1_back_31 rfl
  · replace H := (gm_ite H).2 c4
    refine go_aloadn dX1_back_21 rfl ?_
    refine gm_getR fd_X1_12 dX1_back_22 H (fun x5 H => ?_)
    refine go_iloadn dX1_back_25 rfl ?_
    refine go_iloadn dX1_back_26 rfl ?_
    refine go_iconst (v := (-1 : Int32)) dX1_back_27 rfl ?_
    obtain ⟨c5, x6, ex6, H⟩ := gm_rc H
    refine go_callV (vs := [aI v1, aI x3.1, aI (-1 : Int32)]) (stk := []) (o1 := (none, x6)) mk_X0_goBack sv_X1_back_92 cl_X0 rfl dX1_back_28 c5 rfl rfl (Nat.le_of_ble_eq_true rfl) (Nat.le_of_ble_eq_true rfl) (ok_X0_goBack ex6) (show Go M_X1_back (none, r) 31 [some (aA v0), some (aI v1), some (aI x3.1)] [] x6 from ?_)
    obtain rfl := Option.some.inj H
    exact go_return dX1_back_31 rfl
/-! X1_deed -/
def j_X1_deed_16 (v0 : Nat) (v1 : Int32) (v2 : Int32) (s0 : Int32) (h : Hp) : Option Hp :=
  if (2 : Int32) ≤ v2 then (if (4 : Int32) ≤ v2 then (if ¬ v2 = (4 : Int32) then ((rc h v0 2 (m_X1_back v0 v1 h)).bind fun x1 => some x1) else if s0 = 0 then (some h) else (rc h v0 2 (m_X1_move v0 v1 h)).bind fun x2 => some x2) else (gfR h v0 2 0).bind fun x3 => (rc h x3 1 (m_X0_firstTokenOf x3 v1 h)).bind fun x4 => if x4 = (-1 : Int32) then (some h) else (rc h v0 2 (m_X1_put v0 v1 h)).bind fun x5 => some x5) else if s0 = 0 then (some h) else (rc h v0 2 (m_X1_cut v0 v1 h)).bind fun x6 => some x6
set_option maxRecDepth 20000 in
theorem okj_X1_deed_16 {r : Hp} (v0 : Nat) (v1 : Int32) (v2 : Int32) (s0 : Int32) (h : Hp) (H : j_X1_deed_16 v0 v1 v2 s0 h = some r) : Go M_X1_deed (none, r) 16 [some (aA v0), some (aI v1), some (aI v2), none] [aI s0] h := by
  unfold j_X1_deed_16 at H
  refine go_istoren (loc2 := [some (aA v0), some (aI v1), some (aI v2), some (aI s0)]) dX1_deed_16 rfl (by decide) rfl ?_
  refine go_iloadn dX1_deed_17 rfl ?_
  refine go_iconst (v := (2 : Int32)) dX1_deed_18 rfl ?_
  refine go_icmp_ge (tgt := 34) dX1_deed_19 (by decide) (fun c1 => ?_) (fun c1 => ?_)
  · replace H := (gm_ite H).1 c1
    refine go_iloadn dX1_deed_34 rfl ?_
    refine go_iconst (v := (4 : Int32)) dX1_deed_35 rfl ?_
    refine go_icmp_ge (tgt := 59) dX1_deed_36 (by decide) (fun c2 => ?_) (fun c2 => ?_)
    · replace H := (gm_ite H).1 c2
      refine go_iloadn dX1_deed_59 rfl ?_
      refine go_iconst (v := (4 : Int32)) dX1_deed_60 rfl ?_
      refine go_icmp_ne (tgt := 76) dX1_deed_61 (by decide) (fun c3 => ?_) (fun c3 => ?_)
      · replace H := (gm_ite H).1 c3
        refine go_aloadn dX1_deed_76 rfl ?_
        refine go_iloadn dX1_deed_77 rfl ?_
        obtain ⟨c4, x1, ex1, H⟩ := gm_rc H
        refine go_callV (vs := [aI v1]) (stk := []) (o1 := (none, x1)) mk_X1_back sv_X1_deed_58 cl_X1 rfl dX1_deed_78 c4 rfl rfl (Nat.le_of_ble_eq_true rfl) (Nat.le_of_ble_eq_true rfl) (ok_X1_back ex1) (show Go M_X1_deed (none, r) 81 [some (aA v0), some (aI v1), some (aI v2), some (aI s0)] [] x1 from ?_)
        obtain rfl := Option.some.inj H
        exact go_return dX1_deed_81 rfl
      · replace H := (gm_ite H).2 c3
        refine go_iloadn dX1_deed_64 rfl ?_
        refine go_if_eq (tgt := 81) dX1_deed_65 (by decide) (fun c5 => ?_) (fun c5 => ?_)
        · replace H := (gm_ite H).1 c5
          obtain rfl := Option.some.inj H
          exact go_return dX1_deed_81 rfl
        · replace H := (gm_ite H).2 c5
          refine go_aloadn dX1_deed_68 rfl ?_
          refine go_iloadn dX1_deed_69 rfl ?_
          obtain ⟨c6, x2, ex2, H⟩ := gm_rc H
          refine go_callV (vs := [aI v1]) (stk := []) (o1 := (none, x2)) mk_X1_move sv_X1_deed_55 cl_X1 rfl dX1_deed_70 c6 rfl rfl (Nat.le_of_ble_eq_true rfl) (Nat.le_of_ble_eq_true rfl) (ok_X1_move ex2) (show Go M_X1_deed (none, r) 73 [some (aA v0), some (aI v1), some (aI v2), some (aI s0)] [] x2 from ?_)
          refine go_goto (tgt := 81) dX1_deed_73 (by decide) ?_
          obtain rfl := Option.some.inj H
          exact go_return dX1_deed_81 rfl
    · replace H := (gm_ite H).2 c2
      refine go_aloadn dX1_deed_39 rfl ?_
      refine gm_getR fd_X1_12 dX1_deed_40 H (fun x3 H => ?_)
      refine go_iloadn dX1_deed_43 rfl ?_
      obtain ⟨c7, x4, ex4, H⟩ := gm_rc H
      refine go_callV (vs := [aI v1]) (stk := []) (o1 := (some (aI x4), h)) mk_X0_firstTokenOf sv_X1_deed_49 cl_X0 rfl dX1_deed_44 c7 rfl rfl (Nat.le_of_ble_eq_true rfl) (Nat.le_of_ble_eq_true rfl) (ok_X0_firstTokenOf ex4) (show Go M_X1_deed (none, r) 47 [some (aA v0), some (aI v1), some (aI v2), some (aI s0)] [aI x4] h from ?_)
      refine go_iconst (v := (-1 : Int32)) dX1_deed_47 rfl ?_
      refine go_icmp_eq (tgt := 81) dX1_deed_48 (by decide) (fun c8 => ?_) (fun c8 => ?_)
      · replace H := (gm_ite H).1 c8
        obtain rfl := Option.some.inj H
        exact go_return dX1_deed_81 rfl
      · replace H := (gm_ite H).2 c8
        refine go_aloadn dX1_deed_51 rfl ?_
        refine go_iloadn dX1_deed_52 rfl ?_
        obtain ⟨c9, x5, ex5, H⟩ := gm_rc H
        refine go_callV (vs := [aI v1]) (stk := []) (o1 := (none, x5)) mk_X1_put sv_X1_deed_52 cl_X1 rfl dX1_deed_53 c9 rfl rfl (Nat.le_of_ble_eq_true rfl) (Nat.le_of_ble_eq_true rfl) (ok_X1_put ex5) (show Go M_X1_deed (none, r) 56 [some (aA v0), some (aI v1), some (aI v2), some (aI s0)] [] x5 from ?_)
        refine go_goto (tgt := 81) dX1_deed_56 (by decide) ?_
        obtain rfl := Option.some.inj H
        exact go_return dX1_deed_81 rfl
  · replace H := (gm_ite H).2 c1
    refine go_iloadn dX1_deed_22 rfl ?_
    refine go_if_eq (tgt := 81) dX1_deed_23 (by decide) (fun c10 => ?_) (fun c10 => ?_)
    · replace H := (gm_ite H).1 c10
      obtain rfl := Option.some.inj H
      exact go_return dX1_deed_81 rfl
    · replace H := (gm_ite H).2 c10
      refine go_aloadn dX1_deed_26 rfl ?_
      refine go_iloadn dX1_deed_27 rfl ?_
      obtain ⟨c11, x6, ex6, H⟩ := gm_rc H
      refine go_callV (vs := [aI v1]) (stk := []) (o1 := (none, x6)) mk_X1_cut sv_X1_deed_45 cl_X1 rfl dX1_deed_28 c11 rfl rfl (Nat.le_of_ble_eq_true rfl) (Nat.le_of_ble_eq_true rfl) (ok_X1_cut ex6) (show Go M_X1_deed (none, r) 31 [some (aA v0), some (aI v1), some (aI v2), some (aI s0)] [] x6 from ?_)
      refine go_goto (tgt := 81) dX1_deed_31 (by decide) ?_
      obtain rfl := Option.some.inj H
      exact go_return dX1_deed_81 rfl
def m_X1_deed (v0 : Nat) (v1 : Int32) (v2 : Int32) (h : Hp) : Option Hp :=
  (gfR h v0 2 0).bind fun x1 => (rc h x1 1 (m_X0_latestLength x1 v1 h)).bind fun x2 => j_X1_deed_16 v0 v1 v2 (if x2 ≤ 0 then (0 : Int32) else (1 : Int32)) h
set_option maxRecDepth 20000 in
theorem ok_X1_deed {r : Hp} {v0 : Nat} {v1 : Int32} {v2 : Int32} {h : Hp} (H : m_X1_deed v0 v1 v2 h = some r) : Ev M_X1_deed [aA v0, aI v1, aI v2] h (none, r) := by
  show Go M_X1_deed (none, r) 0 [some (aA v0), some (aI v1), some (aI v2), none] [] h
  unfold m_X1_deed at H
  refine go_aloadn dX1_deed_0 rfl ?_
  refine gm_getR fd_X1_12 dX1_deed_1 H (fun x1 H => ?_)
  refine go_iloadn dX1_deed_4 rfl ?_
  obtain ⟨c1, x2, ex2, H⟩ := gm_rc H
  refine go_callV (vs := [aI v1]) (stk := []) (o1 := (some (aI x2), h)) mk_X0_latestLength sv_X1_deed_42 cl_X0 rfl dX1_deed_5 c1 rfl rfl (Nat.le_of_ble_eq_true rfl) (Nat.le_of_ble_eq_true rfl) (ok_X0_latestLength ex2) (show Go M_X1_deed (none, r) 8 [some (aA v0), some (aI v1), some (aI v2), none] [aI x2] h from ?_)
  refine go_if_le (tgt := 15) dX1_deed_8 (by decide) (fun c2 => ?_) (fun c2 => ?_)
  · rw [if_pos c2] at H
    refine go_iconst (v := (0 : Int32)) dX1_deed_15 rfl ?_
    exact okj_X1_deed_16 v0 v1 v2 (0 : Int32) h  H
  · rw [if_neg c2] at H
    refine go_iconst (v := (1 : Int32)) dX1_deed_11 rfl ?_
    refine go_goto (tgt := 16) dX1_deed_12 (by decide) ?_
    exact okj_X1_deed_16 v0 v1 v2 (1 : Int32) h  H
/-! X1_goOn -/
def b_X1_goOn_16 (v0 : Nat) (v3 : Int32) (K63 : Hp → Option (Nat × Hp)) (k : Int32 → Hp → Option (Nat × Hp)) (v4 : Int32) (h : Hp) : Option (Nat × Hp) :=
  if v3 ≤ v4 then K63 h else (gfR h v0 2 0).bind fun x1 => (gfI h x1 1 0).bind fun x2 => if x2 ≤ 0 then K63 h else (gfR h v0 2 0).bind fun x3 => (gfI h x3 1 0).bind fun x4 => (rc h v0 2 (m_X1_below v0 x4 h)).bind fun x5 => (rc x5.2 v0 2 (m_X1_below v0 (6 : Int32) x5.2)).bind fun x6 => (rc x6.2 v0 2 (m_X1_deed v0 x5.1 x6.1 x6.2)).bind fun x7 => k (v4 + (1 : Int32)) x7
set_option maxRecDepth 20000 in
theorem okb_X1_goOn_16 {r : (Nat × Hp)} (v0 : Nat) (v3 : Int32) (K63 : Hp → Option (Nat × Hp)) (k : Int32 → Hp → Option (Nat × Hp)) (v4 : Int32) (h : Hp) (HK63 : ∀   (hq : Hp), K63 hq = some r → Go M_X1_goOn (some (aA r.1), r.2) 63 [some (aA v0), none, none, none, none, none] [] hq) (Hk : ∀ (v4q : Int32) (hq : Hp), k v4q hq = some r → Go M_X1_goOn (some (aA r.1), r.2) 16 [some (aA v0), none, none, some (aI v3), some (aI v4q), none] [] hq) (H : b_X1_goOn_16 v0 v3 K63 k v4 h = some r) : Go M_X1_goOn (some (aA r.1), r.2) 16 [some (aA v0), none, none, some (aI v3), some (aI v4), none] [] h := by
  unfold b_X1_goOn_16 at H
  refine go_iload dX1_goOn_16 rfl ?_
  refine go_iloadn dX1_goOn_18 rfl ?_
  refine go_icmp_ge (tgt := 63) dX1_goOn_19 (by decide) (fun c1 => ?_) (fun c1 => ?_)
  · replace H := (gm_ite H).1 c1
    refine go_mask [true, false, false, false, false, false] (loc' := [some (aA v0), none, none, none, none, none]) rfl ?_
    exact HK63 h H
  · replace H := (gm_ite H).2 c1
    refine go_aloadn dX1_goOn_22 rfl ?_
    refine gm_getR fd_X1_12 dX1_goOn_23 H (fun x1 H => ?_)
    refine gm_getI fd_X1_30 dX1_goOn_26 H (fun x2 H => ?_)
    refine go_if_le (tgt := 63) dX1_goOn_29 (by decide) (fun c2 => ?_) (fun c2 => ?_)
    · replace H := (gm_ite H).1 c2
      refine go_mask [true, false, false, false, false, false] (loc' := [some (aA v0), none, none, none, none, none]) rfl ?_
      exact HK63 h H
    · replace H := (gm_ite H).2 c2
      refine go_aloadn dX1_goOn_32 rfl ?_
      refine go_aloadn dX1_goOn_33 rfl ?_
      refine gm_getR fd_X1_12 dX1_goOn_34 H (fun x3 H => ?_)
      refine gm_getI fd_X1_30 dX1_goOn_37 H (fun x4 H => ?_)
      obtain ⟨c3, x5, ex5, H⟩ := gm_rc H
      refine go_callV (vs := [aI x4]) (stk := []) (o1 := (some (aI x5.1), x5.2)) mk_X1_below sv_X1_goOn_33 cl_X1 rfl dX1_goOn_40 c3 rfl rfl (Nat.le_of_ble_eq_true rfl) (Nat.le_of_ble_eq_true rfl) (ok_X1_below ex5) (show Go M_X1_goOn (some (aA r.1), r.2) 43 [some (aA v0), none, none, some (aI v3), some (aI v4), none] [aI x5.1] x5.2 from ?_)
      refine go_istore (loc2 := [some (aA v0), none, none, some (aI v3), some (aI v4), some (aI x5.1)]) dX1_goOn_43 (by decide) rfl ?_
      refine go_aloadn dX1_goOn_45 rfl ?_
      refine go_iload dX1_goOn_46 rfl ?_
      refine go_aloadn dX1_goOn_48 rfl ?_
      refine go_bipush (v := (6 : Int32)) dX1_goOn_49 rfl ?_
      obtain ⟨c4, x6, ex6, H⟩ := gm_rc H
      refine go_callV (vs := [aI (6 : Int32)]) (stk := [aI x5.1, aA v0]) (o1 := (some (aI x6.1), x6.2)) mk_X1_below sv_X1_goOn_33 cl_X1 rfl dX1_goOn_51 c4 rfl rfl (Nat.le_of_ble_eq_true rfl) (Nat.le_of_ble_eq_true rfl) (ok_X1_below ex6) (show Go M_X1_goOn (some (aA r.1), r.2) 54 [some (aA v0), none, none, some (aI v3), some (aI v4), some (aI x5.1)] [aI x6.1, aI x5.1, aA v0] x6.2 from ?_)
      obtain ⟨c5, x7, ex7, H⟩ := gm_rc H
      refine go_callV (vs := [aI x5.1, aI x6.1]) (stk := []) (o1 := (none, x7)) mk_X1_deed sv_X1_goOn_37 cl_X1 rfl dX1_goOn_54 c5 rfl rfl (Nat.le_of_ble_eq_true rfl) (Nat.le_of_ble_eq_true rfl) (ok_X1_deed ex7) (show Go M_X1_goOn (some (aA r.1), r.2) 57 [some (aA v0), none, none, some (aI v3), some (aI v4), some (aI x5.1)] [] x7 from ?_)
      refine go_iinc (v := (v4 + (1 : Int32))) (loc2 := [some (aA v0), none, none, some (aI v3), some (aI (v4 + (1 : Int32))), some (aI x5.1)]) dX1_goOn_57 rfl rfl (by decide) rfl ?_
      refine go_goto (tgt := 16) dX1_goOn_60 (by decide) ?_
      refine go_mask [true, false, false, true, true, false] (loc' := [some (aA v0), none, none, some (aI v3), some (aI (v4 + (1 : Int32))), none]) rfl ?_
      exact Hk (v4 + (1 : Int32)) x7 H
def l_X1_goOn_16 (v0 : Nat) (v3 : Int32) (K63 : Hp → Option (Nat × Hp)) (v4 : Int32) (h : Hp) : Option (Nat × Hp) := loopK FUEL (fun (k : Int32 × Hp → Option (Nat × Hp)) (s : Int32 × Hp) => b_X1_goOn_16 v0 v3 K63 (fun v4q hq => k (v4q, hq)) s.1 s.2) (v4, h)
theorem okl_X1_goOn_16 {r : (Nat × Hp)} (v0 : Nat) (v3 : Int32) (K63 : Hp → Option (Nat × Hp)) (v4 : Int32) (h : Hp) (HK63 : ∀   (hq : Hp), K63 hq = some r → Go M_X1_goOn (some (aA r.1), r.2) 63 [some (aA v0), none, none, none, none, none] [] hq) (H : l_X1_goOn_16 v0 v3 K63 v4 h = some r) : Go M_X1_goOn (some (aA r.1), r.2) 16 [some (aA v0), none, none, some (aI v3), some (aI v4), none] [] h := by
  unfold l_X1_goOn_16 at H
  exact go_loop (σ := Int32 × Hp) (body := (fun (k : Int32 × Hp → Option (Nat × Hp)) (s : Int32 × Hp) => b_X1_goOn_16 v0 v3 K63 (fun v4q hq => k (v4q, hq)) s.1 s.2)) (fun s => [some (aA v0), none, none, some (aI v3), some (aI s.1), none]) (fun s => s.2) (fun k s Hk H => okb_X1_goOn_16 v0 v3 K63 (fun v4q hq => k (v4q, hq)) s.1 s.2 HK63 (fun v4q hq H => Hk (v4q, hq) H) H) FUEL (v4, h) H
def j_X1_goOn_63 (v0 : Nat)  (h : Hp) : Option (Nat × Hp) :=
  (gfR h v0 2 0).bind fun x1 => some (x1, h)
set_option maxRecDepth 20000 in
theorem okj_X1_goOn_63 {r : (Nat × Hp)} (v0 : Nat)  (h : Hp) (H : j_X1_goOn_63 v0 h = some r) : Go M_X1_goOn (some (aA r.1), r.2) 63 [some (aA v0), none, none, none, none, none] [] h := by
  unfold j_X1_goOn_63 at H
  refine go_aloadn dX1_goOn_63 rfl ?_
  refine gm_getR fd_X1_12 dX1_goOn_64 H (fun x1 H => ?_)
  obtain rfl := Option.some.inj H
  exact go_areturn dX1_goOn_67 ⟨_, rfl, Or.inl ⟨_, rfl⟩⟩
def m_X1_goOn (v0 : Nat) (v1 : Nat) (v2 : Int32) (v3 : Int32) (h : Hp) : Option (Nat × Hp) :=
  (gfR h v0 2 0).bind fun x1 => (rc h x1 1 (m_X0_copyFrom x1 v1 h)).bind fun x2 => (pfI x2 v0 2 2 v2).bind fun hh1 => l_X1_goOn_16 v0 v3 (fun hz3 => j_X1_goOn_63 v0 hz3) (0 : Int32) hh1
set_option maxRecDepth 20000 in
theorem ok_X1_goOn {r : (Nat × Hp)} {v0 : Nat} {v1 : Nat} {v2 : Int32} {v3 : Int32} {h : Hp} (H : m_X1_goOn v0 v1 v2 v3 h = some r) : Ev M_X1_goOn [aA v0, aA v1, aI v2, aI v3] h (some (aA r.1), r.2) := by
  show Go M_X1_goOn (some (aA r.1), r.2) 0 [some (aA v0), some (aA v1), some (aI v2), some (aI v3), none, none] [] h
  unfold m_X1_goOn at H
  refine go_aloadn dX1_goOn_0 rfl ?_
  refine gm_getR fd_X1_12 dX1_goOn_1 H (fun x1 H => ?_)
  refine go_aloadn dX1_goOn_4 rfl ?_
  obtain ⟨c1, x2, ex2, H⟩ := gm_rc H
  refine go_callV (vs := [aA v1]) (stk := []) (o1 := (none, x2)) mk_X0_copyFrom sv_X1_goOn_26 cl_X0 rfl dX1_goOn_5 c1 rfl rfl (Nat.le_of_ble_eq_true rfl) (Nat.le_of_ble_eq_true rfl) (ok_X0_copyFrom ex2) (show Go M_X1_goOn (some (aA r.1), r.2) 8 [some (aA v0), some (aA v1), some (aI v2), some (aI v3), none, none] [] x2 from ?_)
  refine go_aloadn dX1_goOn_8 rfl ?_
  refine go_iloadn dX1_goOn_9 rfl ?_
  refine gm_putI fd_X1_22 (Or.inl rfl) dX1_goOn_10 H (fun hh1 H => ?_)
  refine go_iconst (v := (0 : Int32)) dX1_goOn_13 rfl ?_
  refine go_istore (loc2 := [some (aA v0), some (aA v1), some (aI v2), some (aI v3), some (aI (0 : Int32)), none]) dX1_goOn_14 (by decide) rfl ?_
  refine go_mask [true, false, false, true, true, false] (loc' := [some (aA v0), none, none, some (aI v3), some (aI (0 : Int32)), none]) rfl ?_
  refine okl_X1_goOn_16 v0 v3 (fun hz3 => j_X1_goOn_63 v0 hz3) (0 : Int32) hh1 ?_ H
  · intro hz3 H
    exact okj_X1_goOn_63 v0 hz3  H
/-! X0_tokensOf -/
def j_X0_tokensOf_27 (v0 : Nat) (v1 : Int32) (v3 : Int32) (s0 : Int32) (s1 : Int32) (h : Hp) (k : Int32 → Int32 → Option Int32) : Option Int32 :=
  k (s0 + s1) (v3 + (1 : Int32))
set_option maxRecDepth 20000 in
theorem okj_X0_tokensOf_27 {r : Int32} (v0 : Nat) (v1 : Int32) (v3 : Int32) (s0 : Int32) (s1 : Int32) (h : Hp) (k : Int32 → Int32 → Option Int32) (Hk : ∀ (v2q : Int32) (v3q : Int32), k v2q v3q = some r → Go M_X0_tokensOf (some (aI r), h) 4 [some (aA v0), some (aI v1), some (aI v2q), some (aI v3q)] [] h) (H : j_X0_tokensOf_27 v0 v1 v3 s0 s1 h k = some r) : Go M_X0_tokensOf (some (aI r), h) 27 [some (aA v0), some (aI v1), none, some (aI v3)] [aI s1, aI s0] h := by
  unfold j_X0_tokensOf_27 at H
  refine go_iadd dX0_tokensOf_27 ?_
  refine go_istoren (loc2 := [some (aA v0), some (aI v1), some (aI (s0 + s1)), some (aI v3)]) dX0_tokensOf_28 rfl (by decide) rfl ?_
  refine go_iinc (v := (v3 + (1 : Int32))) (loc2 := [some (aA v0), some (aI v1), some (aI (s0 + s1)), some (aI (v3 + (1 : Int32)))]) dX0_tokensOf_29 rfl rfl (by decide) rfl ?_
  refine go_goto (tgt := 4) dX0_tokensOf_32 (by decide) ?_
  exact Hk (s0 + s1) (v3 + (1 : Int32)) H
def b_X0_tokensOf_4 (v0 : Nat) (v1 : Int32) (h : Hp) (k : Int32 → Int32 → Option Int32) (v2 : Int32) (v3 : Int32) : Option Int32 :=
  (gfI h v0 1 1).bind fun x1 => if x1 ≤ v3 then (some v2) else (rc h v0 1 (m_X0_ownerOf v0 v3 h)).bind fun x2 => j_X0_tokensOf_27 v0 v1 v3 v2 (if ¬ x2 = v1 then (0 : Int32) else (1 : Int32)) h k
set_option maxRecDepth 20000 in
theorem okb_X0_tokensOf_4 {r : Int32} (v0 : Nat) (v1 : Int32) (h : Hp) (k : Int32 → Int32 → Option Int32) (v2 : Int32) (v3 : Int32) (Hk : ∀ (v2q : Int32) (v3q : Int32), k v2q v3q = some r → Go M_X0_tokensOf (some (aI r), h) 4 [some (aA v0), some (aI v1), some (aI v2q), some (aI v3q)] [] h) (H : b_X0_tokensOf_4 v0 v1 h k v2 v3 = some r) : Go M_X0_tokensOf (some (aI r), h) 4 [some (aA v0), some (aI v1), some (aI v2), some (aI v3)] [] h := by
  unfold b_X0_tokensOf_4 at H
  refine go_iloadn dX0_tokensOf_4 rfl ?_
  refine go_aloadn dX0_tokensOf_5 rfl ?_
  refine gm_getI fd_X0_15 dX0_tokensOf_6 H (fun x1 H => ?_)
  refine go_icmp_ge (tgt := 35) dX0_tokensOf_9 (by decide) (fun c1 => ?_) (fun c1 => ?_)
  · replace H := (gm_ite H).1 c1
    refine go_iloadn dX0_tokensOf_35 rfl ?_
    obtain rfl := Option.some.inj H
    exact go_ireturn dX0_tokensOf_36 (tyI_int rfl)
  · replace H := (gm_ite H).2 c1
    refine go_iloadn dX0_tokensOf_12 rfl ?_
    refine go_aloadn dX0_tokensOf_13 rfl ?_
    refine go_iloadn dX0_tokensOf_14 rfl ?_
    obtain ⟨c2, x2, ex2, H⟩ := gm_rc H
    refine go_callV (vs := [aI v3]) (stk := [aI v2]) (o1 := (some (aI x2), h)) mk_X0_ownerOf sv_X0_tokensOf_105 cl_X0 rfl dX0_tokensOf_15 c2 rfl rfl (Nat.le_of_ble_eq_true rfl) (Nat.le_of_ble_eq_true rfl) (ok_X0_ownerOf ex2) (show Go M_X0_tokensOf (some (aI r), h) 18 [some (aA v0), some (aI v1), some (aI v2), some (aI v3)] [aI x2, aI v2] h from ?_)
    refine go_iloadn dX0_tokensOf_18 rfl ?_
    refine go_icmp_ne (tgt := 26) dX0_tokensOf_19 (by decide) (fun c3 => ?_) (fun c3 => ?_)
    · rw [if_pos c3] at H
      refine go_iconst (v := (0 : Int32)) dX0_tokensOf_26 rfl ?_
      refine go_mask [true, true, false, true] (loc' := [some (aA v0), some (aI v1), none, some (aI v3)]) rfl ?_
      exact okj_X0_tokensOf_27 v0 v1 v3 v2 (0 : Int32) h k Hk H
    · rw [if_neg c3] at H
      refine go_iconst (v := (1 : Int32)) dX0_tokensOf_22 rfl ?_
      refine go_goto (tgt := 27) dX0_tokensOf_23 (by decide) ?_
      refine go_mask [true, true, false, true] (loc' := [some (aA v0), some (aI v1), none, some (aI v3)]) rfl ?_
      exact okj_X0_tokensOf_27 v0 v1 v3 v2 (1 : Int32) h k Hk H
def l_X0_tokensOf_4 (v0 : Nat) (v1 : Int32) (h : Hp) (v2 : Int32) (v3 : Int32) : Option Int32 := loopK FUEL (fun (k : Int32 × Int32 → Option Int32) (s : Int32 × Int32) => b_X0_tokensOf_4 v0 v1 h (fun v2q v3q => k (v2q, v3q)) s.1 s.2) (v2, v3)
theorem okl_X0_tokensOf_4 {r : Int32} (v0 : Nat) (v1 : Int32) (h : Hp) (v2 : Int32) (v3 : Int32) (H : l_X0_tokensOf_4 v0 v1 h v2 v3 = some r) : Go M_X0_tokensOf (some (aI r), h) 4 [some (aA v0), some (aI v1), some (aI v2), some (aI v3)] [] h := by
  unfold l_X0_tokensOf_4 at H
  exact go_loop (σ := Int32 × Int32) (body := (fun (k : Int32 × Int32 → Option Int32) (s : Int32 × Int32) => b_X0_tokensOf_4 v0 v1 h (fun v2q v3q => k (v2q, v3q)) s.1 s.2)) (fun s => [some (aA v0), some (aI v1), some (aI s.1), some (aI s.2)]) (fun s => h) (fun k s Hk H => okb_X0_tokensOf_4 v0 v1 h (fun v2q v3q => k (v2q, v3q)) s.1 s.2  (fun v2q v3q H => Hk (v2q, v3q) H) H) FUEL (v2, v3) H
def m_X0_tokensOf (v0 : Nat) (v1 : Int32) (h : Hp) : Option Int32 :=
  l_X0_tokensOf_4 v0 v1 h (0 : Int32) (0 : Int32)
set_option maxRecDepth 20000 in
theorem ok_X0_tokensOf {r : Int32} {v0 : Nat} {v1 : Int32} {h : Hp} (H : m_X0_tokensOf v0 v1 h = some r) : Ev M_X0_tokensOf [aA v0, aI v1] h (some (aI r), h) := by
  show Go M_X0_tokensOf (some (aI r), h) 0 [some (aA v0), some (aI v1), none, none] [] h
  unfold m_X0_tokensOf at H
  refine go_iconst (v := (0 : Int32)) dX0_tokensOf_0 rfl ?_
  refine go_istoren (loc2 := [some (aA v0), some (aI v1), some (aI (0 : Int32)), none]) dX0_tokensOf_1 rfl (by decide) rfl ?_
  refine go_iconst (v := (0 : Int32)) dX0_tokensOf_2 rfl ?_
  refine go_istoren (loc2 := [some (aA v0), some (aI v1), some (aI (0 : Int32)), some (aI (0 : Int32))]) dX0_tokensOf_3 rfl (by decide) rfl ?_
  exact okl_X0_tokensOf_4 v0 v1 h (0 : Int32) (0 : Int32) H
/-! X11_drawn -/
def j_X11_drawn_136  (s0 : Int32) (h : Hp) : Option (Int32 × Hp) :=
  some (s0, h)
set_option maxRecDepth 20000 in
theorem okj_X11_drawn_136 {r : (Int32 × Hp)}  (s0 : Int32) (h : Hp) (H : j_X11_drawn_136 s0 h = some r) : Go M_X11_drawn (some (aI r.1), r.2) 136 [none, none, none, none, none, none, none, none, none] [aI s0] h := by
  unfold j_X11_drawn_136 at H
  obtain rfl := Option.some.inj H
  exact go_ireturn dX11_drawn_136 (tyI_int rfl)
def m_X11_drawn (v0 : Nat) (v1 : Int32) (v2 : Int32) (v3 : Int32) (v4 : Int32) (v5 : Int32) (h : Hp) : Option (Int32 × Hp) :=
  (gfR h v0 11 0).bind fun x1 => (rc h x1 9 (m_X9_archiveAt x1 v1 h)).bind fun x2 => (nz x2).bind fun _ => if x2 = 0 then (some ((-1 : Int32), h)) else (rc h x2 1 (m_X0_hasDocument x2 v4 h)).bind fun x3 => if x3 = 0 then (some ((-1 : Int32), h)) else if v3 < 0 then (some ((-1 : Int32), h)) else if v3 ≤ (40 : Int32) then ((gfR h v0 11 5).bind fun x4 => (rc h x4 2 (m_X1_goOn x4 x2 v2 v3 h)).bind fun x5 => (rc x5.2 x5.1 1 (m_X0_versionsOf x5.1 v4 x5.2)).bind fun x6 => if v5 = (0 : Int32) then (some (((x6 - (1 : Int32)) + (1 : Int32)), x5.2)) else if v5 = (1 : Int32) then ((rc x5.2 x5.1 1 (m_X0_lengthOf x5.1 v4 (x6 - (1 : Int32)) x5.2)).bind fun x7 => some (x7, x5.2)) else if v5 = (2 : Int32) then ((rc x5.2 x5.1 1 (m_X0_tokensOf x5.1 v4 x5.2)).bind fun x8 => some (x8, x5.2)) else if v5 < (10 : Int32) then j_X11_drawn_136 (-1 : Int32) x5.2 else (rc x5.2 x5.1 1 (m_X0_wordNumberAt x5.1 v4 (x6 - (1 : Int32)) (v5 - (10 : Int32)) x5.2)).bind fun x9 => j_X11_drawn_136 x9 x5.2) else some ((-1 : Int32), h)
set_option maxRecDepth 20000 in
theorem ok_X11_drawn {r : (Int32 × Hp)} {v0 : Nat} {v1 : Int32} {v2 : Int32} {v3 : Int32} {v4 : Int32} {v5 : Int32} {h : Hp} (H : m_X11_drawn v0 v1 v2 v3 v4 v5 h = some r) : Ev M_X11_drawn [aA v0, aI v1, aI v2, aI v3, aI v4, aI v5] h (some (aI r.1), r.2) := by
  show Go M_X11_drawn (some (aI r.1), r.2) 0 [some (aA v0), some (aI v1), some (aI v2), some (aI v3), some (aI v4), some (aI v5), none, none, none] [] h
  unfold m_X11_drawn at H
  refine go_aloadn dX11_drawn_0 rfl ?_
  refine gm_getR fd_X11_10 dX11_drawn_1 H (fun x1 H => ?_)
  refine go_iloadn dX11_drawn_4 rfl ?_
  obtain ⟨c1, x2, ex2, H⟩ := gm_rc H
  refine go_callV (vs := [aI v1]) (stk := []) (o1 := (some (aA x2), h)) mk_X9_archiveAt sv_X11_drawn_86 cl_X9 rfl dX11_drawn_5 c1 rfl rfl (Nat.le_of_ble_eq_true rfl) (Nat.le_of_ble_eq_true rfl) (ok_X9_archiveAt ex2) (show Go M_X11_drawn (some (aI r.1), r.2) 8 [some (aA v0), some (aI v1), some (aI v2), some (aI v3), some (aI v4), some (aI v5), none, none, none] [aA x2] h from ?_)
  refine go_astore (loc2 := [some (aA v0), some (aI v1), some (aI v2), some (aI v3), some (aI v4), some (aI v5), some (aA x2), none, none]) dX11_drawn_8 (by decide) rfl ?_
  refine go_aload dX11_drawn_10 rfl ?_
  obtain ⟨c3, H⟩ := gm_nz H
  refine go_ifnull (tgt := 35) dX11_drawn_12 (by decide) c3 (fun c2 => ?_) (fun c2 => ?_)
  · replace H := (gm_ite H).1 c2
    refine go_iconst (v := (-1 : Int32)) dX11_drawn_35 rfl ?_
    obtain rfl := Option.some.inj H
    exact go_ireturn dX11_drawn_36 (tyI_int rfl)
  · replace H := (gm_ite H).2 c2
    refine go_aload dX11_drawn_15 rfl ?_
    refine go_iload dX11_drawn_17 rfl ?_
    obtain ⟨c4, x3, ex3, H⟩ := gm_rc H
    refine go_callV (vs := [aI v4]) (stk := []) (o1 := (some (aI x3), h)) mk_X0_hasDocument sv_X11_drawn_122 cl_X0 rfl dX11_drawn_19 c4 rfl rfl (Nat.le_of_ble_eq_true rfl) (Nat.le_of_ble_eq_true rfl) (ok_X0_hasDocument ex3) (show Go M_X11_drawn (some (aI r.1), r.2) 22 [some (aA v0), some (aI v1), some (aI v2), some (aI v3), some (aI v4), some (aI v5), some (aA x2), none, none] [aI x3] h from ?_)
    refine go_if_eq (tgt := 35) dX11_drawn_22 (by decide) (fun c5 => ?_) (fun c5 => ?_)
    · replace H := (gm_ite H).1 c5
      refine go_iconst (v := (-1 : Int32)) dX11_drawn_35 rfl ?_
      obtain rfl := Option.some.inj H
      exact go_ireturn dX11_drawn_36 (tyI_int rfl)
    · replace H := (gm_ite H).2 c5
      refine go_iloadn dX11_drawn_25 rfl ?_
      refine go_if_lt (tgt := 35) dX11_drawn_26 (by decide) (fun c6 => ?_) (fun c6 => ?_)
      · replace H := (gm_ite H).1 c6
        refine go_iconst (v := (-1 : Int32)) dX11_drawn_35 rfl ?_
        obtain rfl := Option.some.inj H
        exact go_ireturn dX11_drawn_36 (tyI_int rfl)
      · replace H := (gm_ite H).2 c6
        refine go_iloadn dX11_drawn_29 rfl ?_
        refine go_bipush (v := (40 : Int32)) dX11_drawn_30 rfl ?_
        refine go_icmp_le (tgt := 37) dX11_drawn_32 (by decide) (fun c7 => ?_) (fun c7 => ?_)
        · replace H := (gm_ite H).1 c7
          refine go_aloadn dX11_drawn_37 rfl ?_
          refine gm_getR fd_X11_44 dX11_drawn_38 H (fun x4 H => ?_)
          refine go_aload dX11_drawn_41 rfl ?_
          refine go_iloadn dX11_drawn_43 rfl ?_
          refine go_iloadn dX11_drawn_44 rfl ?_
          obtain ⟨c8, x5, ex5, H⟩ := gm_rc H
          refine go_callV (vs := [aA x2, aI v2, aI v3]) (stk := []) (o1 := (some (aA x5.1), x5.2)) mk_X1_goOn sv_X11_drawn_334 cl_X1 rfl dX11_drawn_45 c8 rfl rfl (Nat.le_of_ble_eq_true rfl) (Nat.le_of_ble_eq_true rfl) (ok_X1_goOn ex5) (show Go M_X11_drawn (some (aI r.1), r.2) 48 [some (aA v0), some (aI v1), some (aI v2), some (aI v3), some (aI v4), some (aI v5), some (aA x2), none, none] [aA x5.1] x5.2 from ?_)
          refine go_astore (loc2 := [some (aA v0), some (aI v1), some (aI v2), some (aI v3), some (aI v4), some (aI v5), some (aA x2), some (aA x5.1), none]) dX11_drawn_48 (by decide) rfl ?_
          refine go_aload dX11_drawn_50 rfl ?_
          refine go_iload dX11_drawn_52 rfl ?_
          obtain ⟨c9, x6, ex6, H⟩ := gm_rc H
          refine go_callV (vs := [aI v4]) (stk := []) (o1 := (some (aI x6), x5.2)) mk_X0_versionsOf sv_X11_drawn_126 cl_X0 rfl dX11_drawn_54 c9 rfl rfl (Nat.le_of_ble_eq_true rfl) (Nat.le_of_ble_eq_true rfl) (ok_X0_versionsOf ex6) (show Go M_X11_drawn (some (aI r.1), r.2) 57 [some (aA v0), some (aI v1), some (aI v2), some (aI v3), some (aI v4), some (aI v5), some (aA x2), some (aA x5.1), none] [aI x6] x5.2 from ?_)
          refine go_iconst (v := (1 : Int32)) dX11_drawn_57 rfl ?_
          refine go_isub dX11_drawn_58 ?_
          refine go_istore (loc2 := [some (aA v0), some (aI v1), some (aI v2), some (aI v3), some (aI v4), some (aI v5), some (aA x2), some (aA x5.1), some (aI (x6 - (1 : Int32)))]) dX11_drawn_59 (by decide) rfl ?_
          refine go_iload dX11_drawn_61 rfl ?_
          by_cases c10 : v5 = (0 : Int32)
          · replace H := (gm_ite H).1 c10
            refine go_eqI c10 ?_
            refine go_tableIn (tgt := 88) dX11_drawn_63 (by decide) (by decide) rfl (by decide) ?_
            refine go_iload dX11_drawn_88 rfl ?_
            refine go_iconst (v := (1 : Int32)) dX11_drawn_90 rfl ?_
            refine go_iadd dX11_drawn_91 ?_
            obtain rfl := Option.some.inj H
            exact go_ireturn dX11_drawn_92 (tyI_int rfl)
          · replace H := (gm_ite H).2 c10
            by_cases c11 : v5 = (1 : Int32)
            · replace H := (gm_ite H).1 c11
              refine go_eqI c11 ?_
              refine go_tableIn (tgt := 93) dX11_drawn_63 (by decide) (by decide) rfl (by decide) ?_
              refine go_aload dX11_drawn_93 rfl ?_
              refine go_iload dX11_drawn_95 rfl ?_
              refine go_iload dX11_drawn_97 rfl ?_
              obtain ⟨c12, x7, ex7, H⟩ := gm_rc H
              refine go_callV (vs := [aI v4, aI (x6 - (1 : Int32))]) (stk := []) (o1 := (some (aI x7), x5.2)) mk_X0_lengthOf sv_X11_drawn_144 cl_X0 rfl dX11_drawn_99 c12 rfl rfl (Nat.le_of_ble_eq_true rfl) (Nat.le_of_ble_eq_true rfl) (ok_X0_lengthOf ex7) (show Go M_X11_drawn (some (aI r.1), r.2) 102 [some (aA v0), some (aI v1), some (aI v2), some (aI v3), some (aI v4), some (aI v5), some (aA x2), some (aA x5.1), some (aI (x6 - (1 : Int32)))] [aI x7] x5.2 from ?_)
              obtain rfl := Option.some.inj H
              exact go_ireturn dX11_drawn_102 (tyI_int rfl)
            · replace H := (gm_ite H).2 c11
              by_cases c13 : v5 = (2 : Int32)
              · replace H := (gm_ite H).1 c13
                refine go_eqI c13 ?_
                refine go_tableIn (tgt := 103) dX11_drawn_63 (by decide) (by decide) rfl (by decide) ?_
                refine go_aload dX11_drawn_103 rfl ?_
                refine go_iload dX11_drawn_105 rfl ?_
                obtain ⟨c14, x8, ex8, H⟩ := gm_rc H
                refine go_callV (vs := [aI v4]) (stk := []) (o1 := (some (aI x8), x5.2)) mk_X0_tokensOf sv_X11_drawn_338 cl_X0 rfl dX11_drawn_107 c14 rfl rfl (Nat.le_of_ble_eq_true rfl) (Nat.le_of_ble_eq_true rfl) (ok_X0_tokensOf ex8) (show Go M_X11_drawn (some (aI r.1), r.2) 110 [some (aA v0), some (aI v1), some (aI v2), some (aI v3), some (aI v4), some (aI v5), some (aA x2), some (aA x5.1), some (aI (x6 - (1 : Int32)))] [aI x8] x5.2 from ?_)
                obtain rfl := Option.some.inj H
                exact go_ireturn dX11_drawn_110 (tyI_int rfl)
              · replace H := (gm_ite H).2 c13
                refine go_tableOut (tgt := 111) dX11_drawn_63 (sw_out (fun i h1 h2 e => ?_)) (by decide) ?_
                · have h3 : i = 0 ∨ i = 1 ∨ i = 2 := by omega
                  rcases h3 with rfl | rfl | rfl
                  · exact sw_ne c10 (by decide) e
                  · exact sw_ne c11 (by decide) e
                  · exact sw_ne c13 (by decide) e
                · skip
                  refine go_iload dX11_drawn_111 rfl ?_
                  refine go_bipush (v := (10 : Int32)) dX11_drawn_113 rfl ?_
                  refine go_icmp_lt (tgt := 135) dX11_drawn_115 (by decide) (fun c15 => ?_) (fun c15 => ?_)
                  · replace H := (gm_ite H).1 c15
                    refine go_iconst (v := (-1 : Int32)) dX11_drawn_135 rfl ?_
                    refine go_mask [false, false, false, false, false, false, false, false, false] (loc' := [none, none, none, none, none, none, none, none, none]) rfl ?_
                    exact okj_X11_drawn_136 (-1 : Int32) x5.2  H
                  · replace H := (gm_ite H).2 c15
                    refine go_aload dX11_drawn_118 rfl ?_
                    refine go_iload dX11_drawn_120 rfl ?_
                    refine go_iload dX11_drawn_122 rfl ?_
                    refine go_iload dX11_drawn_124 rfl ?_
                    refine go_bipush (v := (10 : Int32)) dX11_drawn_126 rfl ?_
                    refine go_isub dX11_drawn_128 ?_
                    obtain ⟨c16, x9, ex9, H⟩ := gm_rc H
                    refine go_callV (vs := [aI v4, aI (x6 - (1 : Int32)), aI (v5 - (10 : Int32))]) (stk := []) (o1 := (some (aI x9), x5.2)) mk_X0_wordNumberAt sv_X11_drawn_163 cl_X0 rfl dX11_drawn_129 c16 rfl rfl (Nat.le_of_ble_eq_true rfl) (Nat.le_of_ble_eq_true rfl) (ok_X0_wordNumberAt ex9) (show Go M_X11_drawn (some (aI r.1), r.2) 132 [some (aA v0), some (aI v1), some (aI v2), some (aI v3), some (aI v4), some (aI v5), some (aA x2), some (aA x5.1), some (aI (x6 - (1 : Int32)))] [aI x9] x5.2 from ?_)
                    refine go_goto (tgt := 136) dX11_drawn_132 (by decide) ?_
                    refine go_mask [false, false, false, false, false, false, false, false, false] (loc' := [none, none, none, none, none, none, none, none, none]) rfl ?_
                    exact okj_X11_drawn_136 x9 x5.2  H
        · replace H := (gm_ite H).2 c7
          refine go_iconst (v := (-1 : Int32)) dX11_drawn_35 rfl ?_
          obtain rfl := Option.some.inj H
          exact go_ireturn dX11_drawn_36 (tyI_int rfl)
/-! X12_draw -/
def m_X12_draw (v0 : Nat) (v1 : Int32) (h : Hp) : Option (Int32 × Hp) :=
  (gfI h v0 12 35).bind fun x1 => (pfI h v0 12 35 ((x1 * (1103515245 : Int32)) + (12345 : Int32))).bind fun hh1 => (gfI hh1 v0 12 35).bind fun x2 => (rmI (iushrF x2 (16 : Int32)) v1).bind fun x3 => some (x3, hh1)
set_option maxRecDepth 20000 in
theorem ok_X12_draw {r : (Int32 × Hp)} {v0 : Nat} {v1 : Int32} {h : Hp} (H : m_X12_draw v0 v1 h = some r) : Ev M_X12_draw [aA v0, aI v1] h (some (aI r.1), r.2) := by
  show Go M_X12_draw (some (aI r.1), r.2) 0 [some (aA v0), some (aI v1)] [] h
  unfold m_X12_draw at H
  refine go_aloadn dX12_draw_0 rfl ?_
  refine go_aloadn dX12_draw_1 rfl ?_
  refine gm_getI fd_X12_464 dX12_draw_2 H (fun x1 H => ?_)
  refine go_ldcw (v := (1103515245 : Int32)) tw1968 dX12_draw_5 ?_
  refine go_imul dX12_draw_8 ?_
  refine go_sipush (v := (12345 : Int32)) dX12_draw_9 rfl ?_
  refine go_iadd dX12_draw_12 ?_
  refine gm_putI fd_X12_464 (Or.inl rfl) dX12_draw_13 H (fun hh1 H => ?_)
  refine go_aloadn dX12_draw_16 rfl ?_
  refine gm_getI fd_X12_464 dX12_draw_17 H (fun x2 H => ?_)
  refine go_bipush (v := (16 : Int32)) dX12_draw_20 rfl ?_
  refine go_iushr dX12_draw_22 ?_
  refine go_iloadn dX12_draw_23 rfl ?_
  refine gm_irem dX12_draw_24 H (fun x3 H => ?_)
  obtain rfl := Option.some.inj H
  exact go_ireturn dX12_draw_25 (tyI_int rfl)
/-! X12_firstToken -/
def b_X12_firstToken_2 (v0 : Nat) (v1 : Int32) (h : Hp) (k : Int32 → Option Int32) (v2 : Int32) : Option Int32 :=
  (gfR h v0 12 18).bind fun x1 => (alI h x1 (5 : Int32)).bind fun x2 => if x2 ≤ v2 then (some (-1 : Int32)) else (gfR h v0 12 18).bind fun x3 => (alI h x3 ((1206 : Int32) + v2)).bind fun x4 => if ¬ x4 = v1 then (k (v2 + (1 : Int32))) else some v2
set_option maxRecDepth 20000 in
theorem okb_X12_firstToken_2 {r : Int32} (v0 : Nat) (v1 : Int32) (h : Hp) (k : Int32 → Option Int32) (v2 : Int32) (Hk : ∀ (v2q : Int32), k v2q = some r → Go M_X12_firstToken (some (aI r), h) 2 [some (aA v0), some (aI v1), some (aI v2q)] [] h) (H : b_X12_firstToken_2 v0 v1 h k v2 = some r) : Go M_X12_firstToken (some (aI r), h) 2 [some (aA v0), some (aI v1), some (aI v2)] [] h := by
  unfold b_X12_firstToken_2 at H
  refine go_iloadn dX12_firstToken_2 rfl ?_
  refine go_aloadn dX12_firstToken_3 rfl ?_
  refine gm_getR fd_X12_35 dX12_firstToken_4 H (fun x1 H => ?_)
  refine go_iconst (v := (5 : Int32)) dX12_firstToken_7 rfl ?_
  refine gm_iald dX12_firstToken_8 H (fun x2 H => ?_)
  refine go_icmp_ge (tgt := 34) dX12_firstToken_9 (by decide) (fun c1 => ?_) (fun c1 => ?_)
  · replace H := (gm_ite H).1 c1
    refine go_iconst (v := (-1 : Int32)) dX12_firstToken_34 rfl ?_
    obtain rfl := Option.some.inj H
    exact go_ireturn dX12_firstToken_35 (tyI_int rfl)
  · replace H := (gm_ite H).2 c1
    refine go_aloadn dX12_firstToken_12 rfl ?_
    refine gm_getR fd_X12_35 dX12_firstToken_13 H (fun x3 H => ?_)
    refine go_sipush (v := (1206 : Int32)) dX12_firstToken_16 rfl ?_
    refine go_iloadn dX12_firstToken_19 rfl ?_
    refine go_iadd dX12_firstToken_20 ?_
    refine gm_iald dX12_firstToken_21 H (fun x4 H => ?_)
    refine go_iloadn dX12_firstToken_22 rfl ?_
    refine go_icmp_ne (tgt := 28) dX12_firstToken_23 (by decide) (fun c2 => ?_) (fun c2 => ?_)
    · replace H := (gm_ite H).1 c2
      refine go_iinc (v := (v2 + (1 : Int32))) (loc2 := [some (aA v0), some (aI v1), some (aI (v2 + (1 : Int32)))]) dX12_firstToken_28 rfl rfl (by decide) rfl ?_
      refine go_goto (tgt := 2) dX12_firstToken_31 (by decide) ?_
      exact Hk (v2 + (1 : Int32)) H
    · replace H := (gm_ite H).2 c2
      refine go_iloadn dX12_firstToken_26 rfl ?_
      obtain rfl := Option.some.inj H
      exact go_ireturn dX12_firstToken_27 (tyI_int rfl)
def l_X12_firstToken_2 (v0 : Nat) (v1 : Int32) (h : Hp) (v2 : Int32) : Option Int32 := loopK FUEL (fun (k : Int32 → Option Int32) (s : Int32) => b_X12_firstToken_2 v0 v1 h (fun v2q => k v2q) s) v2
theorem okl_X12_firstToken_2 {r : Int32} (v0 : Nat) (v1 : Int32) (h : Hp) (v2 : Int32) (H : l_X12_firstToken_2 v0 v1 h v2 = some r) : Go M_X12_firstToken (some (aI r), h) 2 [some (aA v0), some (aI v1), some (aI v2)] [] h := by
  unfold l_X12_firstToken_2 at H
  exact go_loop (σ := Int32) (body := (fun (k : Int32 → Option Int32) (s : Int32) => b_X12_firstToken_2 v0 v1 h (fun v2q => k v2q) s)) (fun s => [some (aA v0), some (aI v1), some (aI s)]) (fun s => h) (fun k s Hk H => okb_X12_firstToken_2 v0 v1 h (fun v2q => k v2q) s  (fun v2q H => Hk v2q H) H) FUEL v2 H
def m_X12_firstToken (v0 : Nat) (v1 : Int32) (h : Hp) : Option Int32 :=
  l_X12_firstToken_2 v0 v1 h (0 : Int32)
set_option maxRecDepth 20000 in
theorem ok_X12_firstToken {r : Int32} {v0 : Nat} {v1 : Int32} {h : Hp} (H : m_X12_firstToken v0 v1 h = some r) : Ev M_X12_firstToken [aA v0, aI v1] h (some (aI r), h) := by
  show Go M_X12_firstToken (some (aI r), h) 0 [some (aA v0), some (aI v1), none] [] h
  unfold m_X12_firstToken at H
  refine go_iconst (v := (0 : Int32)) dX12_firstToken_0 rfl ?_
  refine go_istoren (loc2 := [some (aA v0), some (aI v1), some (aI (0 : Int32))]) dX12_firstToken_1 rfl (by decide) rfl ?_
  exact okl_X12_firstToken_2 v0 v1 h (0 : Int32) H
/-! X12_makes -/
def j_X12_makes_54 (v0 : Nat) (v1 : Int32)  (h : Hp) : Option Hp :=
  (rc h v0 12 (m_X12_makeVersion v0 v1 h)).bind fun x1 => some x1
set_option maxRecDepth 20000 in
theorem okj_X12_makes_54 {r : Hp} (v0 : Nat) (v1 : Int32)  (h : Hp) (H : j_X12_makes_54 v0 v1 h = some r) : Go M_X12_makes (none, r) 54 [some (aA v0), some (aI v1)] [] h := by
  unfold j_X12_makes_54 at H
  refine go_aloadn dX12_makes_54 rfl ?_
  refine go_iloadn dX12_makes_55 rfl ?_
  obtain ⟨c1, x1, ex1, H⟩ := gm_rc H
  refine go_callV (vs := [aI v1]) (stk := []) (o1 := (none, x1)) mk_X12_makeVersion sv_X12_makes_190 cl_X12 rfl dX12_makes_56 c1 rfl rfl (Nat.le_of_ble_eq_true rfl) (Nat.le_of_ble_eq_true rfl) (ok_X12_makeVersion ex1) (show Go M_X12_makes (none, r) 59 [some (aA v0), some (aI v1)] [] x1 from ?_)
  obtain rfl := Option.some.inj H
  exact go_return dX12_makes_59 rfl
def m_X12_makes (v0 : Nat) (v1 : Int32) (h : Hp) : Option Hp :=
  (gfR h v0 12 19).bind fun x1 => (alI h x1 (0 : Int32)).bind fun x2 => (rc h v0 12 (m_X12_versions v0 x2 h)).bind fun x3 => if (10 : Int32) ≤ x3 then (some h) else (rc h v0 12 (m_X12_isThere v0 v1 h)).bind fun x4 => if x4 = 0 then (some h) else if ¬ v1 = 0 then j_X12_makes_54 v0 v1 h else (gfR h v0 12 19).bind fun x5 => (alI h x5 (0 : Int32)).bind fun x6 => (gfR h v0 12 19).bind fun x7 => (alI h x7 (0 : Int32)).bind fun x8 => (rc h v0 12 (m_X12_versions v0 x8 h)).bind fun x9 => (rc h v0 12 (m_X12_longOf v0 x6 (x9 - (1 : Int32)) h)).bind fun x10 => if (20 : Int32) ≤ x10 then (some h) else j_X12_makes_54 v0 v1 h
set_option maxRecDepth 20000 in
theorem ok_X12_makes {r : Hp} {v0 : Nat} {v1 : Int32} {h : Hp} (H : m_X12_makes v0 v1 h = some r) : Ev M_X12_makes [aA v0, aI v1] h (none, r) := by
  show Go M_X12_makes (none, r) 0 [some (aA v0), some (aI v1)] [] h
  unfold m_X12_makes at H
  refine go_aloadn dX12_makes_0 rfl ?_
  refine go_aloadn dX12_makes_1 rfl ?_
  refine gm_getR fd_X12_38 dX12_makes_2 H (fun x1 H => ?_)
  refine go_iconst (v := (0 : Int32)) dX12_makes_5 rfl ?_
  refine gm_iald dX12_makes_6 H (fun x2 H => ?_)
  obtain ⟨c1, x3, ex3, H⟩ := gm_rc H
  refine go_callV (vs := [aI x2]) (stk := []) (o1 := (some (aI x3), h)) mk_X12_versions sv_X12_makes_259 cl_X12 rfl dX12_makes_7 c1 rfl rfl (Nat.le_of_ble_eq_true rfl) (Nat.le_of_ble_eq_true rfl) (ok_X12_versions ex3) (show Go M_X12_makes (none, r) 10 [some (aA v0), some (aI v1)] [aI x3] h from ?_)
  refine go_bipush (v := (10 : Int32)) dX12_makes_10 rfl ?_
  refine go_icmp_ge (tgt := 59) dX12_makes_12 (by decide) (fun c2 => ?_) (fun c2 => ?_)
  · replace H := (gm_ite H).1 c2
    obtain rfl := Option.some.inj H
    exact go_return dX12_makes_59 rfl
  · replace H := (gm_ite H).2 c2
    refine go_aloadn dX12_makes_15 rfl ?_
    refine go_iloadn dX12_makes_16 rfl ?_
    obtain ⟨c3, x4, ex4, H⟩ := gm_rc H
    refine go_callV (vs := [aI v1]) (stk := []) (o1 := (some (aI x4), h)) mk_X12_isThere sv_X12_makes_187 cl_X12 rfl dX12_makes_17 c3 rfl rfl (Nat.le_of_ble_eq_true rfl) (Nat.le_of_ble_eq_true rfl) (ok_X12_isThere ex4) (show Go M_X12_makes (none, r) 20 [some (aA v0), some (aI v1)] [aI x4] h from ?_)
    refine go_if_eq (tgt := 59) dX12_makes_20 (by decide) (fun c4 => ?_) (fun c4 => ?_)
    · replace H := (gm_ite H).1 c4
      obtain rfl := Option.some.inj H
      exact go_return dX12_makes_59 rfl
    · replace H := (gm_ite H).2 c4
      refine go_iloadn dX12_makes_23 rfl ?_
      refine go_if_ne (tgt := 54) dX12_makes_24 (by decide) (fun c5 => ?_) (fun c5 => ?_)
      · replace H := (gm_ite H).1 c5
        exact okj_X12_makes_54 v0 v1 h  H
      · replace H := (gm_ite H).2 c5
        refine go_aloadn dX12_makes_27 rfl ?_
        refine go_aloadn dX12_makes_28 rfl ?_
        refine gm_getR fd_X12_38 dX12_makes_29 H (fun x5 H => ?_)
        refine go_iconst (v := (0 : Int32)) dX12_makes_32 rfl ?_
        refine gm_iald dX12_makes_33 H (fun x6 H => ?_)
        refine go_aloadn dX12_makes_34 rfl ?_
        refine go_aloadn dX12_makes_35 rfl ?_
        refine gm_getR fd_X12_38 dX12_makes_36 H (fun x7 H => ?_)
        refine go_iconst (v := (0 : Int32)) dX12_makes_39 rfl ?_
        refine gm_iald dX12_makes_40 H (fun x8 H => ?_)
        obtain ⟨c6, x9, ex9, H⟩ := gm_rc H
        refine go_callV (vs := [aI x8]) (stk := [aI x6, aA v0]) (o1 := (some (aI x9), h)) mk_X12_versions sv_X12_makes_259 cl_X12 rfl dX12_makes_41 c6 rfl rfl (Nat.le_of_ble_eq_true rfl) (Nat.le_of_ble_eq_true rfl) (ok_X12_versions ex9) (show Go M_X12_makes (none, r) 44 [some (aA v0), some (aI v1)] [aI x9, aI x6, aA v0] h from ?_)
        refine go_iconst (v := (1 : Int32)) dX12_makes_44 rfl ?_
        refine go_isub dX12_makes_45 ?_
        obtain ⟨c7, x10, ex10, H⟩ := gm_rc H
        refine go_callV (vs := [aI x6, aI (x9 - (1 : Int32))]) (stk := []) (o1 := (some (aI x10), h)) mk_X12_longOf sv_X12_makes_269 cl_X12 rfl dX12_makes_46 c7 rfl rfl (Nat.le_of_ble_eq_true rfl) (Nat.le_of_ble_eq_true rfl) (ok_X12_longOf ex10) (show Go M_X12_makes (none, r) 49 [some (aA v0), some (aI v1)] [aI x10] h from ?_)
        refine go_bipush (v := (20 : Int32)) dX12_makes_49 rfl ?_
        refine go_icmp_ge (tgt := 59) dX12_makes_51 (by decide) (fun c8 => ?_) (fun c8 => ?_)
        · replace H := (gm_ite H).1 c8
          obtain rfl := Option.some.inj H
          exact go_return dX12_makes_59 rfl
        · replace H := (gm_ite H).2 c8
          exact okj_X12_makes_54 v0 v1 h  H
/-! X12_drawChange -/
def j_X12_drawChange_219  (s0 : Nat) (s1 : Int32) (h : Hp) : Option Hp :=
  (rc h s0 12 (m_X12_makes s0 s1 h)).bind fun x1 => some x1
set_option maxRecDepth 20000 in
theorem okj_X12_drawChange_219 {r : Hp}  (s0 : Nat) (s1 : Int32) (h : Hp) (H : j_X12_drawChange_219 s0 s1 h = some r) : Go M_X12_drawChange (none, r) 219 [none, none, none, none, none] [aI s1, aA s0] h := by
  unfold j_X12_drawChange_219 at H
  obtain ⟨c1, x1, ex1, H⟩ := gm_rc H
  refine go_callV (vs := [aI s1]) (stk := []) (o1 := (none, x1)) mk_X12_makes sv_X12_drawChange_474 cl_X12 rfl dX12_drawChange_219 c1 rfl rfl (Nat.le_of_ble_eq_true rfl) (Nat.le_of_ble_eq_true rfl) (ok_X12_makes ex1) (show Go M_X12_drawChange (none, r) 222 [none, none, none, none, none] [] x1 from ?_)
  obtain rfl := Option.some.inj H
  exact go_return dX12_drawChange_222 rfl
def j_X12_drawChange_198 (v0 : Nat) (v2 : Int32) (s0 : Nat) (s1 : Int32) (s2 : Int32) (h : Hp) : Option Hp :=
  (asI h s0 s1 s2).bind fun hh1 => j_X12_drawChange_219 v0 (if (2 : Int32) ≤ v2 then (if (4 : Int32) ≤ v2 then (2 : Int32) else (0 : Int32)) else (1 : Int32)) hh1
set_option maxRecDepth 20000 in
theorem okj_X12_drawChange_198 {r : Hp} (v0 : Nat) (v2 : Int32) (s0 : Nat) (s1 : Int32) (s2 : Int32) (h : Hp) (H : j_X12_drawChange_198 v0 v2 s0 s1 s2 h = some r) : Go M_X12_drawChange (none, r) 198 [some (aA v0), none, some (aI v2), none, none] [aI s2, aI s1, aA s0] h := by
  unfold j_X12_drawChange_198 at H
  refine gm_iast dX12_drawChange_198 H (fun hh1 H => ?_)
  refine go_aloadn dX12_drawChange_199 rfl ?_
  refine go_iloadn dX12_drawChange_200 rfl ?_
  refine go_iconst (v := (2 : Int32)) dX12_drawChange_201 rfl ?_
  refine go_icmp_ge (tgt := 209) dX12_drawChange_202 (by decide) (fun c1 => ?_) (fun c1 => ?_)
  · rw [if_pos c1] at H
    refine go_iloadn dX12_drawChange_209 rfl ?_
    refine go_iconst (v := (4 : Int32)) dX12_drawChange_210 rfl ?_
    refine go_icmp_ge (tgt := 218) dX12_drawChange_211 (by decide) (fun c2 => ?_) (fun c2 => ?_)
    · rw [if_pos c2] at H
      refine go_iconst (v := (2 : Int32)) dX12_drawChange_218 rfl ?_
      refine go_mask [false, false, false, false, false] (loc' := [none, none, none, none, none]) rfl ?_
      exact okj_X12_drawChange_219 v0 (2 : Int32) hh1  H
    · rw [if_neg c2] at H
      refine go_iconst (v := (0 : Int32)) dX12_drawChange_214 rfl ?_
      refine go_goto (tgt := 219) dX12_drawChange_215 (by decide) ?_
      refine go_mask [false, false, false, false, false] (loc' := [none, none, none, none, none]) rfl ?_
      exact okj_X12_drawChange_219 v0 (0 : Int32) hh1  H
  · rw [if_neg c1] at H
    refine go_iconst (v := (1 : Int32)) dX12_drawChange_205 rfl ?_
    refine go_goto (tgt := 219) dX12_drawChange_206 (by decide) ?_
    refine go_mask [false, false, false, false, false] (loc' := [none, none, none, none, none]) rfl ?_
    exact okj_X12_drawChange_219 v0 (1 : Int32) hh1  H
def j_X12_drawChange_172 (v0 : Nat) (v2 : Int32) (v4 : Int32) (s0 : Nat) (s1 : Int32) (h : Hp) : Option Hp :=
  (pfI h s0 12 21 s1).bind fun hh1 => (gfR hh1 v0 12 20).bind fun x1 => (gfI hh1 v0 12 21).bind fun x2 => if ¬ x2 = (1 : Int32) then j_X12_drawChange_198 v0 v2 x1 (0 : Int32) (0 : Int32) hh1 else (rc hh1 v0 12 (m_X12_wordOf v0 v4 hh1)).bind fun x3 => j_X12_drawChange_198 v0 v2 x1 (0 : Int32) x3 hh1
set_option maxRecDepth 20000 in
theorem okj_X12_drawChange_172 {r : Hp} (v0 : Nat) (v2 : Int32) (v4 : Int32) (s0 : Nat) (s1 : Int32) (h : Hp) (H : j_X12_drawChange_172 v0 v2 v4 s0 s1 h = some r) : Go M_X12_drawChange (none, r) 172 [some (aA v0), none, some (aI v2), none, some (aI v4)] [aI s1, aA s0] h := by
  unfold j_X12_drawChange_172 at H
  refine gm_putI fd_X12_129 (Or.inl rfl) dX12_drawChange_172 H (fun hh1 H => ?_)
  refine go_aloadn dX12_drawChange_175 rfl ?_
  refine gm_getR fd_X12_41 dX12_drawChange_176 H (fun x1 H => ?_)
  refine go_iconst (v := (0 : Int32)) dX12_drawChange_179 rfl ?_
  refine go_aloadn dX12_drawChange_180 rfl ?_
  refine gm_getI fd_X12_129 dX12_drawChange_181 H (fun x2 H => ?_)
  refine go_iconst (v := (1 : Int32)) dX12_drawChange_184 rfl ?_
  refine go_icmp_ne (tgt := 197) dX12_drawChange_185 (by decide) (fun c1 => ?_) (fun c1 => ?_)
  · replace H := (gm_ite H).1 c1
    refine go_iconst (v := (0 : Int32)) dX12_drawChange_197 rfl ?_
    refine go_mask [true, false, true, false, false] (loc' := [some (aA v0), none, some (aI v2), none, none]) rfl ?_
    exact okj_X12_drawChange_198 v0 v2 x1 (0 : Int32) (0 : Int32) hh1  H
  · replace H := (gm_ite H).2 c1
    refine go_aloadn dX12_drawChange_188 rfl ?_
    refine go_iload dX12_drawChange_189 rfl ?_
    obtain ⟨c2, x3, ex3, H⟩ := gm_rc H
    refine go_callV (vs := [aI v4]) (stk := [aI (0 : Int32), aA x1]) (o1 := (some (aI x3), hh1)) mk_X12_wordOf sv_X12_drawChange_266 cl_X12 rfl dX12_drawChange_191 c2 rfl rfl (Nat.le_of_ble_eq_true rfl) (Nat.le_of_ble_eq_true rfl) (ok_X12_wordOf ex3) (show Go M_X12_drawChange (none, r) 194 [some (aA v0), none, some (aI v2), none, some (aI v4)] [aI x3, aI (0 : Int32), aA x1] hh1 from ?_)
    refine go_goto (tgt := 198) dX12_drawChange_194 (by decide) ?_
    refine go_mask [true, false, true, false, false] (loc' := [some (aA v0), none, some (aI v2), none, none]) rfl ?_
    exact okj_X12_drawChange_198 v0 v2 x1 (0 : Int32) x3 hh1  H
def j_X12_drawChange_155 (v0 : Nat) (v2 : Int32) (v4 : Int32) (s0 : Nat) (s1 : Int32) (s2 : Int32) (h : Hp) : Option Hp :=
  (asI h s0 s1 s2).bind fun hh1 => j_X12_drawChange_172 v0 v2 v4 v0 (if v2 = (2 : Int32) then (1 : Int32) else (if ¬ v2 = (3 : Int32) then (0 : Int32) else (1 : Int32))) hh1
set_option maxRecDepth 20000 in
theorem okj_X12_drawChange_155 {r : Hp} (v0 : Nat) (v2 : Int32) (v4 : Int32) (s0 : Nat) (s1 : Int32) (s2 : Int32) (h : Hp) (H : j_X12_drawChange_155 v0 v2 v4 s0 s1 s2 h = some r) : Go M_X12_drawChange (none, r) 155 [some (aA v0), none, some (aI v2), none, some (aI v4)] [aI s2, aI s1, aA s0] h := by
  unfold j_X12_drawChange_155 at H
  refine gm_iast dX12_drawChange_155 H (fun hh1 H => ?_)
  refine go_aloadn dX12_drawChange_156 rfl ?_
  refine go_iloadn dX12_drawChange_157 rfl ?_
  refine go_iconst (v := (2 : Int32)) dX12_drawChange_158 rfl ?_
  refine go_icmp_eq (tgt := 167) dX12_drawChange_159 (by decide) (fun c1 => ?_) (fun c1 => ?_)
  · rw [if_pos c1] at H
    refine go_iconst (v := (1 : Int32)) dX12_drawChange_167 rfl ?_
    refine go_goto (tgt := 172) dX12_drawChange_168 (by decide) ?_
    exact okj_X12_drawChange_172 v0 v2 v4 v0 (1 : Int32) hh1  H
  · rw [if_neg c1] at H
    refine go_iloadn dX12_drawChange_162 rfl ?_
    refine go_iconst (v := (3 : Int32)) dX12_drawChange_163 rfl ?_
    refine go_icmp_ne (tgt := 171) dX12_drawChange_164 (by decide) (fun c2 => ?_) (fun c2 => ?_)
    · rw [if_pos c2] at H
      refine go_iconst (v := (0 : Int32)) dX12_drawChange_171 rfl ?_
      exact okj_X12_drawChange_172 v0 v2 v4 v0 (0 : Int32) hh1  H
    · rw [if_neg c2] at H
      refine go_iconst (v := (1 : Int32)) dX12_drawChange_167 rfl ?_
      refine go_goto (tgt := 172) dX12_drawChange_168 (by decide) ?_
      exact okj_X12_drawChange_172 v0 v2 v4 v0 (1 : Int32) hh1  H
def j_X12_drawChange_123 (v0 : Nat) (v2 : Int32) (v3 : Int32) (v4 : Int32) (s0 : Nat) (s1 : Int32) (s2 : Nat) (s3 : Int32) (h : Hp) : Option Hp :=
  (rc h s2 12 (m_X12_draw s2 s3 h)).bind fun x1 => (asI x1.2 s0 s1 x1.1).bind fun hh1 => (gfR hh1 v0 12 19).bind fun x2 => if (2 : Int32) ≤ v2 then (if ¬ v2 = (4 : Int32) then j_X12_drawChange_155 v0 v2 v4 x2 (2 : Int32) (-1 : Int32) hh1 else (rc hh1 v0 12 (m_X12_draw v0 v3 hh1)).bind fun x3 => j_X12_drawChange_155 v0 v2 v4 x2 (2 : Int32) x3.1 x3.2) else j_X12_drawChange_155 v0 v2 v4 x2 (2 : Int32) (1 : Int32) hh1
set_option maxRecDepth 20000 in
theorem okj_X12_drawChange_123 {r : Hp} (v0 : Nat) (v2 : Int32) (v3 : Int32) (v4 : Int32) (s0 : Nat) (s1 : Int32) (s2 : Nat) (s3 : Int32) (h : Hp) (H : j_X12_drawChange_123 v0 v2 v3 v4 s0 s1 s2 s3 h = some r) : Go M_X12_drawChange (none, r) 123 [some (aA v0), none, some (aI v2), some (aI v3), some (aI v4)] [aI s3, aA s2, aI s1, aA s0] h := by
  unfold j_X12_drawChange_123 at H
  obtain ⟨c1, x1, ex1, H⟩ := gm_rc H
  refine go_callV (vs := [aI s3]) (stk := [aI s1, aA s0]) (o1 := (some (aI x1.1), x1.2)) mk_X12_draw sv_X12_drawChange_468 cl_X12 rfl dX12_drawChange_123 c1 rfl rfl (Nat.le_of_ble_eq_true rfl) (Nat.le_of_ble_eq_true rfl) (ok_X12_draw ex1) (show Go M_X12_drawChange (none, r) 126 [some (aA v0), none, some (aI v2), some (aI v3), some (aI v4)] [aI x1.1, aI s1, aA s0] x1.2 from ?_)
  refine gm_iast dX12_drawChange_126 H (fun hh1 H => ?_)
  refine go_aloadn dX12_drawChange_127 rfl ?_
  refine gm_getR fd_X12_38 dX12_drawChange_128 H (fun x2 H => ?_)
  refine go_iconst (v := (2 : Int32)) dX12_drawChange_131 rfl ?_
  refine go_iloadn dX12_drawChange_132 rfl ?_
  refine go_iconst (v := (2 : Int32)) dX12_drawChange_133 rfl ?_
  refine go_icmp_ge (tgt := 141) dX12_drawChange_134 (by decide) (fun c2 => ?_) (fun c2 => ?_)
  · replace H := (gm_ite H).1 c2
    refine go_iloadn dX12_drawChange_141 rfl ?_
    refine go_iconst (v := (4 : Int32)) dX12_drawChange_142 rfl ?_
    refine go_icmp_ne (tgt := 154) dX12_drawChange_143 (by decide) (fun c3 => ?_) (fun c3 => ?_)
    · replace H := (gm_ite H).1 c3
      refine go_iconst (v := (-1 : Int32)) dX12_drawChange_154 rfl ?_
      refine go_mask [true, false, true, false, true] (loc' := [some (aA v0), none, some (aI v2), none, some (aI v4)]) rfl ?_
      exact okj_X12_drawChange_155 v0 v2 v4 x2 (2 : Int32) (-1 : Int32) hh1  H
    · replace H := (gm_ite H).2 c3
      refine go_aloadn dX12_drawChange_146 rfl ?_
      refine go_iloadn dX12_drawChange_147 rfl ?_
      obtain ⟨c4, x3, ex3, H⟩ := gm_rc H
      refine go_callV (vs := [aI v3]) (stk := [aI (2 : Int32), aA x2]) (o1 := (some (aI x3.1), x3.2)) mk_X12_draw sv_X12_drawChange_468 cl_X12 rfl dX12_drawChange_148 c4 rfl rfl (Nat.le_of_ble_eq_true rfl) (Nat.le_of_ble_eq_true rfl) (ok_X12_draw ex3) (show Go M_X12_drawChange (none, r) 151 [some (aA v0), none, some (aI v2), some (aI v3), some (aI v4)] [aI x3.1, aI (2 : Int32), aA x2] x3.2 from ?_)
      refine go_goto (tgt := 155) dX12_drawChange_151 (by decide) ?_
      refine go_mask [true, false, true, false, true] (loc' := [some (aA v0), none, some (aI v2), none, some (aI v4)]) rfl ?_
      exact okj_X12_drawChange_155 v0 v2 v4 x2 (2 : Int32) x3.1 x3.2  H
  · replace H := (gm_ite H).2 c2
    refine go_iconst (v := (1 : Int32)) dX12_drawChange_137 rfl ?_
    refine go_goto (tgt := 155) dX12_drawChange_138 (by decide) ?_
    refine go_mask [true, false, true, false, true] (loc' := [some (aA v0), none, some (aI v2), none, some (aI v4)]) rfl ?_
    exact okj_X12_drawChange_155 v0 v2 v4 x2 (2 : Int32) (1 : Int32) hh1  H
def j_X12_drawChange_116 (v0 : Nat) (v2 : Int32) (v3 : Int32) (v4 : Int32) (s0 : Nat) (s1 : Int32) (s2 : Nat) (h : Hp) : Option Hp :=
  j_X12_drawChange_123 v0 v2 v3 v4 s0 s1 s2 (v3 + (1 : Int32)) h
set_option maxRecDepth 20000 in
theorem okj_X12_drawChange_116 {r : Hp} (v0 : Nat) (v2 : Int32) (v3 : Int32) (v4 : Int32) (s0 : Nat) (s1 : Int32) (s2 : Nat) (h : Hp) (H : j_X12_drawChange_116 v0 v2 v3 v4 s0 s1 s2 h = some r) : Go M_X12_drawChange (none, r) 116 [some (aA v0), none, some (aI v2), some (aI v3), some (aI v4)] [aA s2, aI s1, aA s0] h := by
  unfold j_X12_drawChange_116 at H
  refine go_iloadn dX12_drawChange_116 rfl ?_
  refine go_iconst (v := (1 : Int32)) dX12_drawChange_117 rfl ?_
  refine go_iadd dX12_drawChange_118 ?_
  refine go_goto (tgt := 123) dX12_drawChange_119 (by decide) ?_
  exact okj_X12_drawChange_123 v0 v2 v3 v4 s0 s1 s2 (v3 + (1 : Int32)) h  H
def j_X12_drawChange_100 (v0 : Nat) (v2 : Int32) (v3 : Int32) (v4 : Int32)  (h : Hp) : Option Hp :=
  (gfR h v0 12 19).bind fun x1 => if v2 = (2 : Int32) then j_X12_drawChange_116 v0 v2 v3 v4 x1 (1 : Int32) v0 h else if ¬ v2 = (3 : Int32) then (j_X12_drawChange_123 v0 v2 v3 v4 x1 (1 : Int32) v0 v3 h) else j_X12_drawChange_116 v0 v2 v3 v4 x1 (1 : Int32) v0 h
set_option maxRecDepth 20000 in
theorem okj_X12_drawChange_100 {r : Hp} (v0 : Nat) (v2 : Int32) (v3 : Int32) (v4 : Int32)  (h : Hp) (H : j_X12_drawChange_100 v0 v2 v3 v4 h = some r) : Go M_X12_drawChange (none, r) 100 [some (aA v0), none, some (aI v2), some (aI v3), some (aI v4)] [] h := by
  unfold j_X12_drawChange_100 at H
  refine go_aloadn dX12_drawChange_100 rfl ?_
  refine gm_getR fd_X12_38 dX12_drawChange_101 H (fun x1 H => ?_)
  refine go_iconst (v := (1 : Int32)) dX12_drawChange_104 rfl ?_
  refine go_aloadn dX12_drawChange_105 rfl ?_
  refine go_iloadn dX12_drawChange_106 rfl ?_
  refine go_iconst (v := (2 : Int32)) dX12_drawChange_107 rfl ?_
  refine go_icmp_eq (tgt := 116) dX12_drawChange_108 (by decide) (fun c1 => ?_) (fun c1 => ?_)
  · replace H := (gm_ite H).1 c1
    exact okj_X12_drawChange_116 v0 v2 v3 v4 x1 (1 : Int32) v0 h  H
  · replace H := (gm_ite H).2 c1
    refine go_iloadn dX12_drawChange_111 rfl ?_
    refine go_iconst (v := (3 : Int32)) dX12_drawChange_112 rfl ?_
    refine go_icmp_ne (tgt := 122) dX12_drawChange_113 (by decide) (fun c2 => ?_) (fun c2 => ?_)
    · replace H := (gm_ite H).1 c2
      refine go_iloadn dX12_drawChange_122 rfl ?_
      exact okj_X12_drawChange_123 v0 v2 v3 v4 x1 (1 : Int32) v0 v3 h  H
    · replace H := (gm_ite H).2 c2
      exact okj_X12_drawChange_116 v0 v2 v3 v4 x1 (1 : Int32) v0 h  H
def j_X12_drawChange_86 (v0 : Nat) (v2 : Int32) (v3 : Int32) (v4 : Int32)  (h : Hp) : Option Hp :=
  if ¬ v4 = (-1 : Int32) then j_X12_drawChange_100 v0 v2 v3 v4 h else some h
set_option maxRecDepth 20000 in
theorem okj_X12_drawChange_86 {r : Hp} (v0 : Nat) (v2 : Int32) (v3 : Int32) (v4 : Int32)  (h : Hp) (H : j_X12_drawChange_86 v0 v2 v3 v4 h = some r) : Go M_X12_drawChange (none, r) 86 [some (aA v0), none, some (aI v2), some (aI v3), some (aI v4)] [] h := by
  unfold j_X12_drawChange_86 at H
  refine go_iload dX12_drawChange_86 rfl ?_
  refine go_iconst (v := (-1 : Int32)) dX12_drawChange_88 rfl ?_
  refine go_icmp_ne (tgt := 100) dX12_drawChange_89 (by decide) (fun c1 => ?_) (fun c1 => ?_)
  · replace H := (gm_ite H).1 c1
    exact okj_X12_drawChange_100 v0 v2 v3 v4 h  H
  · replace H := (gm_ite H).2 c1
    refine go_goto (tgt := 99) dX12_drawChange_92 (by decide) ?_
    obtain rfl := Option.some.inj H
    exact go_return dX12_drawChange_99 rfl
def m_X12_drawChange (v0 : Nat) (h : Hp) : Option Hp :=
  (gfR h v0 12 18).bind fun x1 => (alI h x1 (0 : Int32)).bind fun x2 => (rc h v0 12 (m_X12_draw v0 x2 h)).bind fun x3 => (rc x3.2 v0 12 (m_X12_draw v0 (6 : Int32) x3.2)).bind fun x4 => (rc x4.2 v0 12 (m_X12_versions v0 x3.1 x4.2)).bind fun x5 => (rc x4.2 v0 12 (m_X12_longOf v0 x3.1 (x5 - (1 : Int32)) x4.2)).bind fun x6 => (rc x4.2 v0 12 (m_X12_firstToken v0 x3.1 x4.2)).bind fun x7 => (gfR x4.2 v0 12 19).bind fun x8 => (asI x4.2 x8 (0 : Int32) x3.1).bind fun hh1 => (pfI hh1 v0 12 21 (0 : Int32)).bind fun hh2 => if ¬ x4.1 = (5 : Int32) then (if x4.1 = (2 : Int32) then j_X12_drawChange_86 v0 x4.1 x6 x7 hh2 else if ¬ x4.1 = (3 : Int32) then (if ¬ x6 = 0 then j_X12_drawChange_100 v0 x4.1 x6 x7 hh2 else some hh2) else j_X12_drawChange_86 v0 x4.1 x6 x7 hh2) else (gfR hh2 v0 12 19).bind fun x9 => (rc hh2 v0 12 (m_X12_versions v0 x3.1 hh2)).bind fun x10 => (rc hh2 v0 12 (m_X12_draw v0 x10 hh2)).bind fun x11 => (asI x11.2 x9 (1 : Int32) x11.1).bind fun hh3 => (rc hh3 v0 12 (m_X12_makes v0 (3 : Int32) hh3)).bind fun x12 => some x12
set_option maxRecDepth 20000 in
theorem ok_X12_drawChange {r : Hp} {v0 : Nat} {h : Hp} (H : m_X12_drawChange v0 h = some r) : Ev M_X12_drawChange [aA v0] h (none, r) := by
  show Go M_X12_drawChange (none, r) 0 [some (aA v0), none, none, none, none] [] h
  unfold m_X12_drawChange at H
  refine go_aloadn dX12_drawChange_0 rfl ?_
  refine go_aloadn dX12_drawChange_1 rfl ?_
  refine gm_getR fd_X12_35 dX12_drawChange_2 H (fun x1 H => ?_)
  refine go_iconst (v := (0 : Int32)) dX12_drawChange_5 rfl ?_
  refine gm_iald dX12_drawChange_6 H (fun x2 H => ?_)
  obtain ⟨c1, x3, ex3, H⟩ := gm_rc H
  refine go_callV (vs := [aI x2]) (stk := []) (o1 := (some (aI x3.1), x3.2)) mk_X12_draw sv_X12_drawChange_468 cl_X12 rfl dX12_drawChange_7 c1 rfl rfl (Nat.le_of_ble_eq_true rfl) (Nat.le_of_ble_eq_true rfl) (ok_X12_draw ex3) (show Go M_X12_drawChange (none, r) 10 [some (aA v0), none, none, none, none] [aI x3.1] x3.2 from ?_)
  refine go_istoren (loc2 := [some (aA v0), some (aI x3.1), none, none, none]) dX12_drawChange_10 rfl (by decide) rfl ?_
  refine go_aloadn dX12_drawChange_11 rfl ?_
  refine go_bipush (v := (6 : Int32)) dX12_drawChange_12 rfl ?_
  obtain ⟨c2, x4, ex4, H⟩ := gm_rc H
  refine go_callV (vs := [aI (6 : Int32)]) (stk := []) (o1 := (some (aI x4.1), x4.2)) mk_X12_draw sv_X12_drawChange_468 cl_X12 rfl dX12_drawChange_14 c2 rfl rfl (Nat.le_of_ble_eq_true rfl) (Nat.le_of_ble_eq_true rfl) (ok_X12_draw ex4) (show Go M_X12_drawChange (none, r) 17 [some (aA v0), some (aI x3.1), none, none, none] [aI x4.1] x4.2 from ?_)
  refine go_istoren (loc2 := [some (aA v0), some (aI x3.1), some (aI x4.1), none, none]) dX12_drawChange_17 rfl (by decide) rfl ?_
  refine go_aloadn dX12_drawChange_18 rfl ?_
  refine go_iloadn dX12_drawChange_19 rfl ?_
  refine go_aloadn dX12_drawChange_20 rfl ?_
  refine go_iloadn dX12_drawChange_21 rfl ?_
  obtain ⟨c3, x5, ex5, H⟩ := gm_rc H
  refine go_callV (vs := [aI x3.1]) (stk := [aI x3.1, aA v0]) (o1 := (some (aI x5), x4.2)) mk_X12_versions sv_X12_drawChange_259 cl_X12 rfl dX12_drawChange_22 c3 rfl rfl (Nat.le_of_ble_eq_true rfl) (Nat.le_of_ble_eq_true rfl) (ok_X12_versions ex5) (show Go M_X12_drawChange (none, r) 25 [some (aA v0), some (aI x3.1), some (aI x4.1), none, none] [aI x5, aI x3.1, aA v0] x4.2 from ?_)
  refine go_iconst (v := (1 : Int32)) dX12_drawChange_25 rfl ?_
  refine go_isub dX12_drawChange_26 ?_
  obtain ⟨c4, x6, ex6, H⟩ := gm_rc H
  refine go_callV (vs := [aI x3.1, aI (x5 - (1 : Int32))]) (stk := []) (o1 := (some (aI x6), x4.2)) mk_X12_longOf sv_X12_drawChange_269 cl_X12 rfl dX12_drawChange_27 c4 rfl rfl (Nat.le_of_ble_eq_true rfl) (Nat.le_of_ble_eq_true rfl) (ok_X12_longOf ex6) (show Go M_X12_drawChange (none, r) 30 [some (aA v0), some (aI x3.1), some (aI x4.1), none, none] [aI x6] x4.2 from ?_)
  refine go_istoren (loc2 := [some (aA v0), some (aI x3.1), some (aI x4.1), some (aI x6), none]) dX12_drawChange_30 rfl (by decide) rfl ?_
  refine go_aloadn dX12_drawChange_31 rfl ?_
  refine go_iloadn dX12_drawChange_32 rfl ?_
  obtain ⟨c5, x7, ex7, H⟩ := gm_rc H
  refine go_callV (vs := [aI x3.1]) (stk := []) (o1 := (some (aI x7), x4.2)) mk_X12_firstToken sv_X12_drawChange_471 cl_X12 rfl dX12_drawChange_33 c5 rfl rfl (Nat.le_of_ble_eq_true rfl) (Nat.le_of_ble_eq_true rfl) (ok_X12_firstToken ex7) (show Go M_X12_drawChange (none, r) 36 [some (aA v0), some (aI x3.1), some (aI x4.1), some (aI x6), none] [aI x7] x4.2 from ?_)
  refine go_istore (loc2 := [some (aA v0), some (aI x3.1), some (aI x4.1), some (aI x6), some (aI x7)]) dX12_drawChange_36 (by decide) rfl ?_
  refine go_aloadn dX12_drawChange_38 rfl ?_
  refine gm_getR fd_X12_38 dX12_drawChange_39 H (fun x8 H => ?_)
  refine go_iconst (v := (0 : Int32)) dX12_drawChange_42 rfl ?_
  refine go_iloadn dX12_drawChange_43 rfl ?_
  refine gm_iast dX12_drawChange_44 H (fun hh1 H => ?_)
  refine go_aloadn dX12_drawChange_45 rfl ?_
  refine go_iconst (v := (0 : Int32)) dX12_drawChange_46 rfl ?_
  refine gm_putI fd_X12_129 (Or.inl rfl) dX12_drawChange_47 H (fun hh2 H => ?_)
  refine go_iloadn dX12_drawChange_50 rfl ?_
  refine go_iconst (v := (5 : Int32)) dX12_drawChange_51 rfl ?_
  refine go_icmp_ne (tgt := 76) dX12_drawChange_52 (by decide) (fun c6 => ?_) (fun c6 => ?_)
  · replace H := (gm_ite H).1 c6
    refine go_iloadn dX12_drawChange_76 rfl ?_
    refine go_iconst (v := (2 : Int32)) dX12_drawChange_77 rfl ?_
    refine go_icmp_eq (tgt := 86) dX12_drawChange_78 (by decide) (fun c7 => ?_) (fun c7 => ?_)
    · replace H := (gm_ite H).1 c7
      refine go_mask [true, false, true, true, true] (loc' := [some (aA v0), none, some (aI x4.1), some (aI x6), some (aI x7)]) rfl ?_
      exact okj_X12_drawChange_86 v0 x4.1 x6 x7 hh2  H
    · replace H := (gm_ite H).2 c7
      refine go_iloadn dX12_drawChange_81 rfl ?_
      refine go_iconst (v := (3 : Int32)) dX12_drawChange_82 rfl ?_
      refine go_icmp_ne (tgt := 95) dX12_drawChange_83 (by decide) (fun c8 => ?_) (fun c8 => ?_)
      · replace H := (gm_ite H).1 c8
        refine go_iloadn dX12_drawChange_95 rfl ?_
        refine go_if_ne (tgt := 100) dX12_drawChange_96 (by decide) (fun c9 => ?_) (fun c9 => ?_)
        · replace H := (gm_ite H).1 c9
          refine go_mask [true, false, true, true, true] (loc' := [some (aA v0), none, some (aI x4.1), some (aI x6), some (aI x7)]) rfl ?_
          exact okj_X12_drawChange_100 v0 x4.1 x6 x7 hh2  H
        · replace H := (gm_ite H).2 c9
          obtain rfl := Option.some.inj H
          exact go_return dX12_drawChange_99 rfl
      · replace H := (gm_ite H).2 c8
        refine go_mask [true, false, true, true, true] (loc' := [some (aA v0), none, some (aI x4.1), some (aI x6), some (aI x7)]) rfl ?_
        exact okj_X12_drawChange_86 v0 x4.1 x6 x7 hh2  H
  · replace H := (gm_ite H).2 c6
    refine go_aloadn dX12_drawChange_55 rfl ?_
    refine gm_getR fd_X12_38 dX12_drawChange_56 H (fun x9 H => ?_)
    refine go_iconst (v := (1 : Int32)) dX12_drawChange_59 rfl ?_
    refine go_aloadn dX12_drawChange_60 rfl ?_
    refine go_aloadn dX12_drawChange_61 rfl ?_
    refine go_iloadn dX12_drawChange_62 rfl ?_
    obtain ⟨c10, x10, ex10, H⟩ := gm_rc H
    refine go_callV (vs := [aI x3.1]) (stk := [aA v0, aI (1 : Int32), aA x9]) (o1 := (some (aI x10), hh2)) mk_X12_versions sv_X12_drawChange_259 cl_X12 rfl dX12_drawChange_63 c10 rfl rfl (Nat.le_of_ble_eq_true rfl) (Nat.le_of_ble_eq_true rfl) (ok_X12_versions ex10) (show Go M_X12_drawChange (none, r) 66 [some (aA v0), some (aI x3.1), some (aI x4.1), some (aI x6), some (aI x7)] [aI x10, aA v0, aI (1 : Int32), aA x9] hh2 from ?_)
    obtain ⟨c11, x11, ex11, H⟩ := gm_rc H
    refine go_callV (vs := [aI x10]) (stk := [aI (1 : Int32), aA x9]) (o1 := (some (aI x11.1), x11.2)) mk_X12_draw sv_X12_drawChange_468 cl_X12 rfl dX12_drawChange_66 c11 rfl rfl (Nat.le_of_ble_eq_true rfl) (Nat.le_of_ble_eq_true rfl) (ok_X12_draw ex11) (show Go M_X12_drawChange (none, r) 69 [some (aA v0), some (aI x3.1), some (aI x4.1), some (aI x6), some (aI x7)] [aI x11.1, aI (1 : Int32), aA x9] x11.2 from ?_)
    refine gm_iast dX12_drawChange_69 H (fun hh3 H => ?_)
    refine go_aloadn dX12_drawChange_70 rfl ?_
    refine go_iconst (v := (3 : Int32)) dX12_drawChange_71 rfl ?_
    obtain ⟨c12, x12, ex12, H⟩ := gm_rc H
    refine go_callV (vs := [aI (3 : Int32)]) (stk := []) (o1 := (none, x12)) mk_X12_makes sv_X12_drawChange_474 cl_X12 rfl dX12_drawChange_72 c12 rfl rfl (Nat.le_of_ble_eq_true rfl) (Nat.le_of_ble_eq_true rfl) (ok_X12_makes ex12) (show Go M_X12_drawChange (none, r) 75 [some (aA v0), some (aI x3.1), some (aI x4.1), some (aI x6), some (aI x7)] [] x12 from ?_)
    obtain rfl := Option.some.inj H
    exact go_return dX12_drawChange_75 rfl
/-! X12_tokensOf -/
def j_X12_tokensOf_34 (v0 : Nat) (v1 : Int32) (v3 : Int32) (s0 : Int32) (s1 : Int32) (h : Hp) (k : Int32 → Int32 → Option Int32) : Option Int32 :=
  k (s0 + s1) (v3 + (1 : Int32))
set_option maxRecDepth 20000 in
theorem okj_X12_tokensOf_34 {r : Int32} (v0 : Nat) (v1 : Int32) (v3 : Int32) (s0 : Int32) (s1 : Int32) (h : Hp) (k : Int32 → Int32 → Option Int32) (Hk : ∀ (v2q : Int32) (v3q : Int32), k v2q v3q = some r → Go M_X12_tokensOf (some (aI r), h) 4 [some (aA v0), some (aI v1), some (aI v2q), some (aI v3q)] [] h) (H : j_X12_tokensOf_34 v0 v1 v3 s0 s1 h k = some r) : Go M_X12_tokensOf (some (aI r), h) 34 [some (aA v0), some (aI v1), none, some (aI v3)] [aI s1, aI s0] h := by
  unfold j_X12_tokensOf_34 at H
  refine go_iadd dX12_tokensOf_34 ?_
  refine go_istoren (loc2 := [some (aA v0), some (aI v1), some (aI (s0 + s1)), some (aI v3)]) dX12_tokensOf_35 rfl (by decide) rfl ?_
  refine go_iinc (v := (v3 + (1 : Int32))) (loc2 := [some (aA v0), some (aI v1), some (aI (s0 + s1)), some (aI (v3 + (1 : Int32)))]) dX12_tokensOf_36 rfl rfl (by decide) rfl ?_
  refine go_goto (tgt := 4) dX12_tokensOf_39 (by decide) ?_
  exact Hk (s0 + s1) (v3 + (1 : Int32)) H
def b_X12_tokensOf_4 (v0 : Nat) (v1 : Int32) (h : Hp) (k : Int32 → Int32 → Option Int32) (v2 : Int32) (v3 : Int32) : Option Int32 :=
  (gfR h v0 12 18).bind fun x1 => (alI h x1 (5 : Int32)).bind fun x2 => if x2 ≤ v3 then (some v2) else (gfR h v0 12 18).bind fun x3 => (alI h x3 ((1206 : Int32) + v3)).bind fun x4 => j_X12_tokensOf_34 v0 v1 v3 v2 (if ¬ x4 = v1 then (0 : Int32) else (1 : Int32)) h k
set_option maxRecDepth 20000 in
theorem okb_X12_tokensOf_4 {r : Int32} (v0 : Nat) (v1 : Int32) (h : Hp) (k : Int32 → Int32 → Option Int32) (v2 : Int32) (v3 : Int32) (Hk : ∀ (v2q : Int32) (v3q : Int32), k v2q v3q = some r → Go M_X12_tokensOf (some (aI r), h) 4 [some (aA v0), some (aI v1), some (aI v2q), some (aI v3q)] [] h) (H : b_X12_tokensOf_4 v0 v1 h k v2 v3 = some r) : Go M_X12_tokensOf (some (aI r), h) 4 [some (aA v0), some (aI v1), some (aI v2), some (aI v3)] [] h := by
  unfold b_X12_tokensOf_4 at H
  refine go_iloadn dX12_tokensOf_4 rfl ?_
  refine go_aloadn dX12_tokensOf_5 rfl ?_
  refine gm_getR fd_X12_35 dX12_tokensOf_6 H (fun x1 H => ?_)
  refine go_iconst (v := (5 : Int32)) dX12_tokensOf_9 rfl ?_
  refine gm_iald dX12_tokensOf_10 H (fun x2 H => ?_)
  refine go_icmp_ge (tgt := 42) dX12_tokensOf_11 (by decide) (fun c1 => ?_) (fun c1 => ?_)
  · replace H := (gm_ite H).1 c1
    refine go_iloadn dX12_tokensOf_42 rfl ?_
    obtain rfl := Option.some.inj H
    exact go_ireturn dX12_tokensOf_43 (tyI_int rfl)
  · replace H := (gm_ite H).2 c1
    refine go_iloadn dX12_tokensOf_14 rfl ?_
    refine go_aloadn dX12_tokensOf_15 rfl ?_
    refine gm_getR fd_X12_35 dX12_tokensOf_16 H (fun x3 H => ?_)
    refine go_sipush (v := (1206 : Int32)) dX12_tokensOf_19 rfl ?_
    refine go_iloadn dX12_tokensOf_22 rfl ?_
    refine go_iadd dX12_tokensOf_23 ?_
    refine gm_iald dX12_tokensOf_24 H (fun x4 H => ?_)
    refine go_iloadn dX12_tokensOf_25 rfl ?_
    refine go_icmp_ne (tgt := 33) dX12_tokensOf_26 (by decide) (fun c2 => ?_) (fun c2 => ?_)
    · rw [if_pos c2] at H
      refine go_iconst (v := (0 : Int32)) dX12_tokensOf_33 rfl ?_
      refine go_mask [true, true, false, true] (loc' := [some (aA v0), some (aI v1), none, some (aI v3)]) rfl ?_
      exact okj_X12_tokensOf_34 v0 v1 v3 v2 (0 : Int32) h k Hk H
    · rw [if_neg c2] at H
      refine go_iconst (v := (1 : Int32)) dX12_tokensOf_29 rfl ?_
      refine go_goto (tgt := 34) dX12_tokensOf_30 (by decide) ?_
      refine go_mask [true, true, false, true] (loc' := [some (aA v0), some (aI v1), none, some (aI v3)]) rfl ?_
      exact okj_X12_tokensOf_34 v0 v1 v3 v2 (1 : Int32) h k Hk H
def l_X12_tokensOf_4 (v0 : Nat) (v1 : Int32) (h : Hp) (v2 : Int32) (v3 : Int32) : Option Int32 := loopK FUEL (fun (k : Int32 × Int32 → Option Int32) (s : Int32 × Int32) => b_X12_tokensOf_4 v0 v1 h (fun v2q v3q => k (v2q, v3q)) s.1 s.2) (v2, v3)
theorem okl_X12_tokensOf_4 {r : Int32} (v0 : Nat) (v1 : Int32) (h : Hp) (v2 : Int32) (v3 : Int32) (H : l_X12_tokensOf_4 v0 v1 h v2 v3 = some r) : Go M_X12_tokensOf (some (aI r), h) 4 [some (aA v0), some (aI v1), some (aI v2), some (aI v3)] [] h := by
  unfold l_X12_tokensOf_4 at H
  exact go_loop (σ := Int32 × Int32) (body := (fun (k : Int32 × Int32 → Option Int32) (s : Int32 × Int32) => b_X12_tokensOf_4 v0 v1 h (fun v2q v3q => k (v2q, v3q)) s.1 s.2)) (fun s => [some (aA v0), some (aI v1), some (aI s.1), some (aI s.2)]) (fun s => h) (fun k s Hk H => okb_X12_tokensOf_4 v0 v1 h (fun v2q v3q => k (v2q, v3q)) s.1 s.2  (fun v2q v3q H => Hk (v2q, v3q) H) H) FUEL (v2, v3) H
def m_X12_tokensOf (v0 : Nat) (v1 : Int32) (h : Hp) : Option Int32 :=
  l_X12_tokensOf_4 v0 v1 h (0 : Int32) (0 : Int32)
set_option maxRecDepth 20000 in
theorem ok_X12_tokensOf {r : Int32} {v0 : Nat} {v1 : Int32} {h : Hp} (H : m_X12_tokensOf v0 v1 h = some r) : Ev M_X12_tokensOf [aA v0, aI v1] h (some (aI r), h) := by
  show Go M_X12_tokensOf (some (aI r), h) 0 [some (aA v0), some (aI v1), none, none] [] h
  unfold m_X12_tokensOf at H
  refine go_iconst (v := (0 : Int32)) dX12_tokensOf_0 rfl ?_
  refine go_istoren (loc2 := [some (aA v0), some (aI v1), some (aI (0 : Int32)), none]) dX12_tokensOf_1 rfl (by decide) rfl ?_
  refine go_iconst (v := (0 : Int32)) dX12_tokensOf_2 rfl ?_
  refine go_istoren (loc2 := [some (aA v0), some (aI v1), some (aI (0 : Int32)), some (aI (0 : Int32))]) dX12_tokensOf_3 rfl (by decide) rfl ?_
  exact okl_X12_tokensOf_4 v0 v1 h (0 : Int32) (0 : Int32) H
/-! X12_drawn -/
def b_X12_drawn_42 (v0 : Nat) (v3 : Int32) (v4 : Int32) (v5 : Int32) (K58 : Hp → Option (Int32 × Hp)) (k : Int32 → Hp → Option (Int32 × Hp)) (v6 : Int32) (h : Hp) : Option (Int32 × Hp) :=
  if v3 ≤ v6 then K58 h else (rc h v0 12 (m_X12_drawChange v0 h)).bind fun x1 => k (v6 + (1 : Int32)) x1
set_option maxRecDepth 20000 in
theorem okb_X12_drawn_42 {r : (Int32 × Hp)} (v0 : Nat) (v3 : Int32) (v4 : Int32) (v5 : Int32) (K58 : Hp → Option (Int32 × Hp)) (k : Int32 → Hp → Option (Int32 × Hp)) (v6 : Int32) (h : Hp) (HK58 : ∀   (hq : Hp), K58 hq = some r → Go M_X12_drawn (some (aI r.1), r.2) 58 [some (aA v0), none, none, none, some (aI v4), some (aI v5), none] [] hq) (Hk : ∀ (v6q : Int32) (hq : Hp), k v6q hq = some r → Go M_X12_drawn (some (aI r.1), r.2) 42 [some (aA v0), none, none, some (aI v3), some (aI v4), some (aI v5), some (aI v6q)] [] hq) (H : b_X12_drawn_42 v0 v3 v4 v5 K58 k v6 h = some r) : Go M_X12_drawn (some (aI r.1), r.2) 42 [some (aA v0), none, none, some (aI v3), some (aI v4), some (aI v5), some (aI v6)] [] h := by
  unfold b_X12_drawn_42 at H
  refine go_iload dX12_drawn_42 rfl ?_
  refine go_iloadn dX12_drawn_44 rfl ?_
  refine go_icmp_ge (tgt := 58) dX12_drawn_45 (by decide) (fun c1 => ?_) (fun c1 => ?_)
  · replace H := (gm_ite H).1 c1
    refine go_mask [true, false, false, false, true, true, false] (loc' := [some (aA v0), none, none, none, some (aI v4), some (aI v5), none]) rfl ?_
    exact HK58 h H
  · replace H := (gm_ite H).2 c1
    refine go_aloadn dX12_drawn_48 rfl ?_
    obtain ⟨c2, x1, ex1, H⟩ := gm_rc H
    refine go_callV (vs := []) (stk := []) (o1 := (none, x1)) mk_X12_drawChange sv_X12_drawn_477 cl_X12 rfl dX12_drawn_49 c2 rfl rfl (Nat.le_of_ble_eq_true rfl) (Nat.le_of_ble_eq_true rfl) (ok_X12_drawChange ex1) (show Go M_X12_drawn (some (aI r.1), r.2) 52 [some (aA v0), none, none, some (aI v3), some (aI v4), some (aI v5), some (aI v6)] [] x1 from ?_)
    refine go_iinc (v := (v6 + (1 : Int32))) (loc2 := [some (aA v0), none, none, some (aI v3), some (aI v4), some (aI v5), some (aI (v6 + (1 : Int32)))]) dX12_drawn_52 rfl rfl (by decide) rfl ?_
    refine go_goto (tgt := 42) dX12_drawn_55 (by decide) ?_
    exact Hk (v6 + (1 : Int32)) x1 H
def l_X12_drawn_42 (v0 : Nat) (v3 : Int32) (v4 : Int32) (v5 : Int32) (K58 : Hp → Option (Int32 × Hp)) (v6 : Int32) (h : Hp) : Option (Int32 × Hp) := loopK FUEL (fun (k : Int32 × Hp → Option (Int32 × Hp)) (s : Int32 × Hp) => b_X12_drawn_42 v0 v3 v4 v5 K58 (fun v6q hq => k (v6q, hq)) s.1 s.2) (v6, h)
theorem okl_X12_drawn_42 {r : (Int32 × Hp)} (v0 : Nat) (v3 : Int32) (v4 : Int32) (v5 : Int32) (K58 : Hp → Option (Int32 × Hp)) (v6 : Int32) (h : Hp) (HK58 : ∀   (hq : Hp), K58 hq = some r → Go M_X12_drawn (some (aI r.1), r.2) 58 [some (aA v0), none, none, none, some (aI v4), some (aI v5), none] [] hq) (H : l_X12_drawn_42 v0 v3 v4 v5 K58 v6 h = some r) : Go M_X12_drawn (some (aI r.1), r.2) 42 [some (aA v0), none, none, some (aI v3), some (aI v4), some (aI v5), some (aI v6)] [] h := by
  unfold l_X12_drawn_42 at H
  exact go_loop (σ := Int32 × Hp) (body := (fun (k : Int32 × Hp → Option (Int32 × Hp)) (s : Int32 × Hp) => b_X12_drawn_42 v0 v3 v4 v5 K58 (fun v6q hq => k (v6q, hq)) s.1 s.2)) (fun s => [some (aA v0), none, none, some (aI v3), some (aI v4), some (aI v5), some (aI s.1)]) (fun s => s.2) (fun k s Hk H => okb_X12_drawn_42 v0 v3 v4 v5 K58 (fun v6q hq => k (v6q, hq)) s.1 s.2 HK58 (fun v6q hq H => Hk (v6q, hq) H) H) FUEL (v6, h) H
def j_X12_drawn_154  (s0 : Int32) (h : Hp) : Option (Int32 × Hp) :=
  some (s0, h)
set_option maxRecDepth 20000 in
theorem okj_X12_drawn_154 {r : (Int32 × Hp)}  (s0 : Int32) (h : Hp) (H : j_X12_drawn_154 s0 h = some r) : Go M_X12_drawn (some (aI r.1), r.2) 154 [none, none, none, none, none, none, none] [aI s0] h := by
  unfold j_X12_drawn_154 at H
  obtain rfl := Option.some.inj H
  exact go_ireturn dX12_drawn_154 (tyI_int rfl)
def j_X12_drawn_108  (s0 : Int32) (h : Hp) : Option (Int32 × Hp) :=
  some (s0, h)
set_option maxRecDepth 20000 in
theorem okj_X12_drawn_108 {r : (Int32 × Hp)}  (s0 : Int32) (h : Hp) (H : j_X12_drawn_108 s0 h = some r) : Go M_X12_drawn (some (aI r.1), r.2) 108 [none, none, none, none, none, none, none] [aI s0] h := by
  unfold j_X12_drawn_108 at H
  obtain rfl := Option.some.inj H
  exact go_ireturn dX12_drawn_108 (tyI_int rfl)
def j_X12_drawn_58 (v0 : Nat) (v4 : Int32) (v5 : Int32)  (h : Hp) : Option (Int32 × Hp) :=
  (rc h v0 12 (m_X12_versions v0 v4 h)).bind fun x1 => if v5 < (10 : Int32) then (if ¬ v5 = 0 then (if ¬ v5 = (1 : Int32) then (if ¬ v5 = (2 : Int32) then j_X12_drawn_154 (-1 : Int32) h else (rc h v0 12 (m_X12_tokensOf v0 v4 h)).bind fun x2 => j_X12_drawn_154 x2 h) else (rc h v0 12 (m_X12_longOf v0 v4 (x1 - (1 : Int32)) h)).bind fun x3 => j_X12_drawn_154 x3 h) else j_X12_drawn_154 ((x1 - (1 : Int32)) + (1 : Int32)) h) else (rc h v0 12 (m_X12_longOf v0 v4 (x1 - (1 : Int32)) h)).bind fun x4 => if x4 ≤ (v5 - (10 : Int32)) then j_X12_drawn_108 (-1 : Int32) h else (rc h v0 12 (m_X12_wordAt v0 v4 (x1 - (1 : Int32)) (v5 - (10 : Int32)) h)).bind fun x5 => j_X12_drawn_108 x5 h
set_option maxRecDepth 20000 in
theorem okj_X12_drawn_58 {r : (Int32 × Hp)} (v0 : Nat) (v4 : Int32) (v5 : Int32)  (h : Hp) (H : j_X12_drawn_58 v0 v4 v5 h = some r) : Go M_X12_drawn (some (aI r.1), r.2) 58 [some (aA v0), none, none, none, some (aI v4), some (aI v5), none] [] h := by
  unfold j_X12_drawn_58 at H
  refine go_aloadn dX12_drawn_58 rfl ?_
  refine go_iload dX12_drawn_59 rfl ?_
  obtain ⟨c1, x1, ex1, H⟩ := gm_rc H
  refine go_callV (vs := [aI v4]) (stk := []) (o1 := (some (aI x1), h)) mk_X12_versions sv_X12_drawn_259 cl_X12 rfl dX12_drawn_61 c1 rfl rfl (Nat.le_of_ble_eq_true rfl) (Nat.le_of_ble_eq_true rfl) (ok_X12_versions ex1) (show Go M_X12_drawn (some (aI r.1), r.2) 64 [some (aA v0), none, none, none, some (aI v4), some (aI v5), none] [aI x1] h from ?_)
  refine go_iconst (v := (1 : Int32)) dX12_drawn_64 rfl ?_
  refine go_isub dX12_drawn_65 ?_
  refine go_istore (loc2 := [some (aA v0), none, none, none, some (aI v4), some (aI v5), some (aI (x1 - (1 : Int32)))]) dX12_drawn_66 (by decide) rfl ?_
  refine go_iload dX12_drawn_68 rfl ?_
  refine go_bipush (v := (10 : Int32)) dX12_drawn_70 rfl ?_
  refine go_icmp_lt (tgt := 109) dX12_drawn_72 (by decide) (fun c2 => ?_) (fun c2 => ?_)
  · replace H := (gm_ite H).1 c2
    refine go_iload dX12_drawn_109 rfl ?_
    refine go_if_ne (tgt := 121) dX12_drawn_111 (by decide) (fun c3 => ?_) (fun c3 => ?_)
    · replace H := (gm_ite H).1 c3
      refine go_iload dX12_drawn_121 rfl ?_
      refine go_iconst (v := (1 : Int32)) dX12_drawn_123 rfl ?_
      refine go_icmp_ne (tgt := 138) dX12_drawn_124 (by decide) (fun c4 => ?_) (fun c4 => ?_)
      · replace H := (gm_ite H).1 c4
        refine go_iload dX12_drawn_138 rfl ?_
        refine go_iconst (v := (2 : Int32)) dX12_drawn_140 rfl ?_
        refine go_icmp_ne (tgt := 153) dX12_drawn_141 (by decide) (fun c5 => ?_) (fun c5 => ?_)
        · replace H := (gm_ite H).1 c5
          refine go_iconst (v := (-1 : Int32)) dX12_drawn_153 rfl ?_
          refine go_mask [false, false, false, false, false, false, false] (loc' := [none, none, none, none, none, none, none]) rfl ?_
          exact okj_X12_drawn_154 (-1 : Int32) h  H
        · replace H := (gm_ite H).2 c5
          refine go_aloadn dX12_drawn_144 rfl ?_
          refine go_iload dX12_drawn_145 rfl ?_
          obtain ⟨c6, x2, ex2, H⟩ := gm_rc H
          refine go_callV (vs := [aI v4]) (stk := []) (o1 := (some (aI x2), h)) mk_X12_tokensOf sv_X12_drawn_480 cl_X12 rfl dX12_drawn_147 c6 rfl rfl (Nat.le_of_ble_eq_true rfl) (Nat.le_of_ble_eq_true rfl) (ok_X12_tokensOf ex2) (show Go M_X12_drawn (some (aI r.1), r.2) 150 [some (aA v0), none, none, none, some (aI v4), some (aI v5), some (aI (x1 - (1 : Int32)))] [aI x2] h from ?_)
          refine go_goto (tgt := 154) dX12_drawn_150 (by decide) ?_
          refine go_mask [false, false, false, false, false, false, false] (loc' := [none, none, none, none, none, none, none]) rfl ?_
          exact okj_X12_drawn_154 x2 h  H
      · replace H := (gm_ite H).2 c4
        refine go_aloadn dX12_drawn_127 rfl ?_
        refine go_iload dX12_drawn_128 rfl ?_
        refine go_iload dX12_drawn_130 rfl ?_
        obtain ⟨c7, x3, ex3, H⟩ := gm_rc H
        refine go_callV (vs := [aI v4, aI (x1 - (1 : Int32))]) (stk := []) (o1 := (some (aI x3), h)) mk_X12_longOf sv_X12_drawn_269 cl_X12 rfl dX12_drawn_132 c7 rfl rfl (Nat.le_of_ble_eq_true rfl) (Nat.le_of_ble_eq_true rfl) (ok_X12_longOf ex3) (show Go M_X12_drawn (some (aI r.1), r.2) 135 [some (aA v0), none, none, none, some (aI v4), some (aI v5), some (aI (x1 - (1 : Int32)))] [aI x3] h from ?_)
        refine go_goto (tgt := 154) dX12_drawn_135 (by decide) ?_
        refine go_mask [false, false, false, false, false, false, false] (loc' := [none, none, none, none, none, none, none]) rfl ?_
        exact okj_X12_drawn_154 x3 h  H
    · replace H := (gm_ite H).2 c3
      refine go_iload dX12_drawn_114 rfl ?_
      refine go_iconst (v := (1 : Int32)) dX12_drawn_116 rfl ?_
      refine go_iadd dX12_drawn_117 ?_
      refine go_goto (tgt := 154) dX12_drawn_118 (by decide) ?_
      refine go_mask [false, false, false, false, false, false, false] (loc' := [none, none, none, none, none, none, none]) rfl ?_
      exact okj_X12_drawn_154 ((x1 - (1 : Int32)) + (1 : Int32)) h  H
  · replace H := (gm_ite H).2 c2
    refine go_iload dX12_drawn_75 rfl ?_
    refine go_bipush (v := (10 : Int32)) dX12_drawn_77 rfl ?_
    refine go_isub dX12_drawn_79 ?_
    refine go_aloadn dX12_drawn_80 rfl ?_
    refine go_iload dX12_drawn_81 rfl ?_
    refine go_iload dX12_drawn_83 rfl ?_
    obtain ⟨c8, x4, ex4, H⟩ := gm_rc H
    refine go_callV (vs := [aI v4, aI (x1 - (1 : Int32))]) (stk := [aI (v5 - (10 : Int32))]) (o1 := (some (aI x4), h)) mk_X12_longOf sv_X12_drawn_269 cl_X12 rfl dX12_drawn_85 c8 rfl rfl (Nat.le_of_ble_eq_true rfl) (Nat.le_of_ble_eq_true rfl) (ok_X12_longOf ex4) (show Go M_X12_drawn (some (aI r.1), r.2) 88 [some (aA v0), none, none, none, some (aI v4), some (aI v5), some (aI (x1 - (1 : Int32)))] [aI x4, aI (v5 - (10 : Int32))] h from ?_)
    refine go_icmp_ge (tgt := 107) dX12_drawn_88 (by decide) (fun c9 => ?_) (fun c9 => ?_)
    · replace H := (gm_ite H).1 c9
      refine go_iconst (v := (-1 : Int32)) dX12_drawn_107 rfl ?_
      refine go_mask [false, false, false, false, false, false, false] (loc' := [none, none, none, none, none, none, none]) rfl ?_
      exact okj_X12_drawn_108 (-1 : Int32) h  H
    · replace H := (gm_ite H).2 c9
      refine go_aloadn dX12_drawn_91 rfl ?_
      refine go_iload dX12_drawn_92 rfl ?_
      refine go_iload dX12_drawn_94 rfl ?_
      refine go_iload dX12_drawn_96 rfl ?_
      refine go_bipush (v := (10 : Int32)) dX12_drawn_98 rfl ?_
      refine go_isub dX12_drawn_100 ?_
      obtain ⟨c10, x5, ex5, H⟩ := gm_rc H
      refine go_callV (vs := [aI v4, aI (x1 - (1 : Int32)), aI (v5 - (10 : Int32))]) (stk := []) (o1 := (some (aI x5), h)) mk_X12_wordAt sv_X12_drawn_275 cl_X12 rfl dX12_drawn_101 c10 rfl rfl (Nat.le_of_ble_eq_true rfl) (Nat.le_of_ble_eq_true rfl) (ok_X12_wordAt ex5) (show Go M_X12_drawn (some (aI r.1), r.2) 104 [some (aA v0), none, none, none, some (aI v4), some (aI v5), some (aI (x1 - (1 : Int32)))] [aI x5] h from ?_)
      refine go_goto (tgt := 108) dX12_drawn_104 (by decide) ?_
      refine go_mask [false, false, false, false, false, false, false] (loc' := [none, none, none, none, none, none, none]) rfl ?_
      exact okj_X12_drawn_108 x5 h  H
def m_X12_drawn (v0 : Nat) (v1 : Int32) (v2 : Int32) (v3 : Int32) (v4 : Int32) (v5 : Int32) (h : Hp) : Option (Int32 × Hp) :=
  (pfI h v0 12 0 (0 : Int32)).bind fun hh1 => (m_X12_in v3 (0 : Int32) (40 : Int32) hh1).bind fun x1 => if x1 = 0 then (some ((-1 : Int32), hh1)) else (rc hh1 v0 12 (m_X12_hand v0 v1 hh1)).bind fun x2 => if x2.1 = 0 then (some ((-1 : Int32), x2.2)) else (rc x2.2 v0 12 (m_X12_isDoc v0 v4 x2.2)).bind fun x3 => if ¬ x3 = 0 then ((pfI x2.2 v0 12 35 v2).bind fun hh2 => l_X12_drawn_42 v0 v3 v4 v5 (fun hz4 => j_X12_drawn_58 v0 v4 v5 hz4) (0 : Int32) hh2) else some ((-1 : Int32), x2.2)
set_option maxRecDepth 20000 in
theorem ok_X12_drawn {r : (Int32 × Hp)} {v0 : Nat} {v1 : Int32} {v2 : Int32} {v3 : Int32} {v4 : Int32} {v5 : Int32} {h : Hp} (H : m_X12_drawn v0 v1 v2 v3 v4 v5 h = some r) : Ev M_X12_drawn [aA v0, aI v1, aI v2, aI v3, aI v4, aI v5] h (some (aI r.1), r.2) := by
  show Go M_X12_drawn (some (aI r.1), r.2) 0 [some (aA v0), some (aI v1), some (aI v2), some (aI v3), some (aI v4), some (aI v5), none] [] h
  unfold m_X12_drawn at H
  refine go_aloadn dX12_drawn_0 rfl ?_
  refine go_iconst (v := (0 : Int32)) dX12_drawn_1 rfl ?_
  refine gm_putI fd_X12_60 (Or.inl rfl) dX12_drawn_2 H (fun hh1 H => ?_)
  refine go_iloadn dX12_drawn_5 rfl ?_
  refine go_iconst (v := (0 : Int32)) dX12_drawn_6 rfl ?_
  refine go_bipush (v := (40 : Int32)) dX12_drawn_7 rfl ?_
  obtain ⟨x1, ex1, H⟩ := bind_some H
  refine go_callS (vs := [aI v3, aI (0 : Int32), aI (40 : Int32)]) (stk := []) (o1 := (some (aI x1), hh1)) mk_X12_in ss_X12_drawn_72 dX12_drawn_9 rfl rfl (Nat.le_of_ble_eq_true rfl) (Nat.le_of_ble_eq_true rfl) (ok_X12_in ex1) (show Go M_X12_drawn (some (aI r.1), r.2) 12 [some (aA v0), some (aI v1), some (aI v2), some (aI v3), some (aI v4), some (aI v5), none] [aI x1] hh1 from ?_)
  refine go_if_eq (tgt := 32) dX12_drawn_12 (by decide) (fun c2 => ?_) (fun c2 => ?_)
  · replace H := (gm_ite H).1 c2
    refine go_iconst (v := (-1 : Int32)) dX12_drawn_32 rfl ?_
    obtain rfl := Option.some.inj H
    exact go_ireturn dX12_drawn_33 (tyI_int rfl)
  · replace H := (gm_ite H).2 c2
    refine go_aloadn dX12_drawn_15 rfl ?_
    refine go_iloadn dX12_drawn_16 rfl ?_
    obtain ⟨c3, x2, ex2, H⟩ := gm_rc H
    refine go_callV (vs := [aI v1]) (stk := []) (o1 := (some (aI x2.1), x2.2)) mk_X12_hand sv_X12_drawn_313 cl_X12 rfl dX12_drawn_17 c3 rfl rfl (Nat.le_of_ble_eq_true rfl) (Nat.le_of_ble_eq_true rfl) (ok_X12_hand ex2) (show Go M_X12_drawn (some (aI r.1), r.2) 20 [some (aA v0), some (aI v1), some (aI v2), some (aI v3), some (aI v4), some (aI v5), none] [aI x2.1] x2.2 from ?_)
    refine go_if_eq (tgt := 32) dX12_drawn_20 (by decide) (fun c4 => ?_) (fun c4 => ?_)
    · replace H := (gm_ite H).1 c4
      refine go_iconst (v := (-1 : Int32)) dX12_drawn_32 rfl ?_
      obtain rfl := Option.some.inj H
      exact go_ireturn dX12_drawn_33 (tyI_int rfl)
    · replace H := (gm_ite H).2 c4
      refine go_aloadn dX12_drawn_23 rfl ?_
      refine go_iload dX12_drawn_24 rfl ?_
      obtain ⟨c5, x3, ex3, H⟩ := gm_rc H
      refine go_callV (vs := [aI v4]) (stk := []) (o1 := (some (aI x3), x2.2)) mk_X12_isDoc sv_X12_drawn_256 cl_X12 rfl dX12_drawn_26 c5 rfl rfl (Nat.le_of_ble_eq_true rfl) (Nat.le_of_ble_eq_true rfl) (ok_X12_isDoc ex3) (show Go M_X12_drawn (some (aI r.1), r.2) 29 [some (aA v0), some (aI v1), some (aI v2), some (aI v3), some (aI v4), some (aI v5), none] [aI x3] x2.2 from ?_)
      refine go_if_ne (tgt := 34) dX12_drawn_29 (by decide) (fun c6 => ?_) (fun c6 => ?_)
      · replace H := (gm_ite H).1 c6
        refine go_aloadn dX12_drawn_34 rfl ?_
        refine go_iloadn dX12_drawn_35 rfl ?_
        refine gm_putI fd_X12_464 (Or.inl rfl) dX12_drawn_36 H (fun hh2 H => ?_)
        refine go_iconst (v := (0 : Int32)) dX12_drawn_39 rfl ?_
        refine go_istore (loc2 := [some (aA v0), some (aI v1), some (aI v2), some (aI v3), some (aI v4), some (aI v5), some (aI (0 : Int32))]) dX12_drawn_40 (by decide) rfl ?_
        refine go_mask [true, false, false, true, true, true, true] (loc' := [some (aA v0), none, none, some (aI v3), some (aI v4), some (aI v5), some (aI (0 : Int32))]) rfl ?_
        refine okl_X12_drawn_42 v0 v3 v4 v5 (fun hz4 => j_X12_drawn_58 v0 v4 v5 hz4) (0 : Int32) hh2 ?_ H
        · intro hz4 H
          exact okj_X12_drawn_58 v0 v4 v5 hz4  H
      · replace H := (gm_ite H).2 c6
        refine go_iconst (v := (-1 : Int32)) dX12_drawn_32 rfl ?_
        obtain rfl := Option.some.inj H
        exact go_ireturn dX12_drawn_33 (tyI_int rfl)
/-! X11_count -/
def j_X11_count_24  (s0 : Int32) (h : Hp) : Option Int32 :=
  some s0
set_option maxRecDepth 20000 in
theorem okj_X11_count_24 {r : Int32}  (s0 : Int32) (h : Hp) (H : j_X11_count_24 s0 h = some r) : Go M_X11_count (some (aI r), h) 24 [none, none] [aI s0] h := by
  unfold j_X11_count_24 at H
  obtain rfl := Option.some.inj H
  exact go_ireturn dX11_count_24 (tyI_int rfl)
def m_X11_count (v0 : Nat) (v1 : Int32) (h : Hp) : Option Int32 :=
  (gfR h v0 11 0).bind fun x1 => (rc h x1 9 (m_X9_isSort x1 v1 h)).bind fun x2 => if x2 = 0 then j_X11_count_24 (-2 : Int32) h else (gfR h v0 11 0).bind fun x3 => (rc h x3 9 (m_X9_howMany x3 v1 h)).bind fun x4 => j_X11_count_24 x4 h
set_option maxRecDepth 20000 in
theorem ok_X11_count {r : Int32} {v0 : Nat} {v1 : Int32} {h : Hp} (H : m_X11_count v0 v1 h = some r) : Ev M_X11_count [aA v0, aI v1] h (some (aI r), h) := by
  show Go M_X11_count (some (aI r), h) 0 [some (aA v0), some (aI v1)] [] h
  unfold m_X11_count at H
  refine go_aloadn dX11_count_0 rfl ?_
  refine gm_getR fd_X11_10 dX11_count_1 H (fun x1 H => ?_)
  refine go_iloadn dX11_count_4 rfl ?_
  obtain ⟨c1, x2, ex2, H⟩ := gm_rc H
  refine go_callV (vs := [aI v1]) (stk := []) (o1 := (some (aI x2), h)) mk_X9_isSort sv_X11_count_341 cl_X9 rfl dX11_count_5 c1 rfl rfl (Nat.le_of_ble_eq_true rfl) (Nat.le_of_ble_eq_true rfl) (ok_X9_isSort ex2) (show Go M_X11_count (some (aI r), h) 8 [some (aA v0), some (aI v1)] [aI x2] h from ?_)
  refine go_if_eq (tgt := 22) dX11_count_8 (by decide) (fun c2 => ?_) (fun c2 => ?_)
  · replace H := (gm_ite H).1 c2
    refine go_bipush (v := (-2 : Int32)) dX11_count_22 rfl ?_
    refine go_mask [false, false] (loc' := [none, none]) rfl ?_
    exact okj_X11_count_24 (-2 : Int32) h  H
  · replace H := (gm_ite H).2 c2
    refine go_aloadn dX11_count_11 rfl ?_
    refine gm_getR fd_X11_10 dX11_count_12 H (fun x3 H => ?_)
    refine go_iloadn dX11_count_15 rfl ?_
    obtain ⟨c3, x4, ex4, H⟩ := gm_rc H
    refine go_callV (vs := [aI v1]) (stk := []) (o1 := (some (aI x4), h)) mk_X9_howMany sv_X11_count_344 cl_X9 rfl dX11_count_16 c3 rfl rfl (Nat.le_of_ble_eq_true rfl) (Nat.le_of_ble_eq_true rfl) (ok_X9_howMany ex4) (show Go M_X11_count (some (aI r), h) 19 [some (aA v0), some (aI v1)] [aI x4] h from ?_)
    refine go_goto (tgt := 24) dX11_count_19 (by decide) ?_
    refine go_mask [false, false] (loc' := [none, none]) rfl ?_
    exact okj_X11_count_24 x4 h  H
/-! X12_count -/
def j_X12_count_25  (s0 : Int32) (h : Hp) : Option (Int32 × Hp) :=
  some (s0, h)
set_option maxRecDepth 20000 in
theorem okj_X12_count_25 {r : (Int32 × Hp)}  (s0 : Int32) (h : Hp) (H : j_X12_count_25 s0 h = some r) : Go M_X12_count (some (aI r.1), r.2) 25 [none, none] [aI s0] h := by
  unfold j_X12_count_25 at H
  obtain rfl := Option.some.inj H
  exact go_ireturn dX12_count_25 (tyI_int rfl)
def m_X12_count (v0 : Nat) (v1 : Int32) (h : Hp) : Option (Int32 × Hp) :=
  (pfI h v0 12 0 (0 : Int32)).bind fun hh1 => (m_X12_in v1 (0 : Int32) (2 : Int32) hh1).bind fun x1 => if x1 = 0 then j_X12_count_25 (-2 : Int32) hh1 else (gfR hh1 v0 12 5).bind fun x2 => (alI hh1 x2 v1).bind fun x3 => j_X12_count_25 x3 hh1
set_option maxRecDepth 20000 in
theorem ok_X12_count {r : (Int32 × Hp)} {v0 : Nat} {v1 : Int32} {h : Hp} (H : m_X12_count v0 v1 h = some r) : Ev M_X12_count [aA v0, aI v1] h (some (aI r.1), r.2) := by
  show Go M_X12_count (some (aI r.1), r.2) 0 [some (aA v0), some (aI v1)] [] h
  unfold m_X12_count at H
  refine go_aloadn dX12_count_0 rfl ?_
  refine go_iconst (v := (0 : Int32)) dX12_count_1 rfl ?_
  refine gm_putI fd_X12_60 (Or.inl rfl) dX12_count_2 H (fun hh1 H => ?_)
  refine go_iloadn dX12_count_5 rfl ?_
  refine go_iconst (v := (0 : Int32)) dX12_count_6 rfl ?_
  refine go_iconst (v := (2 : Int32)) dX12_count_7 rfl ?_
  obtain ⟨x1, ex1, H⟩ := bind_some H
  refine go_callS (vs := [aI v1, aI (0 : Int32), aI (2 : Int32)]) (stk := []) (o1 := (some (aI x1), hh1)) mk_X12_in ss_X12_count_72 dX12_count_8 rfl rfl (Nat.le_of_ble_eq_true rfl) (Nat.le_of_ble_eq_true rfl) (ok_X12_in ex1) (show Go M_X12_count (some (aI r.1), r.2) 11 [some (aA v0), some (aI v1)] [aI x1] hh1 from ?_)
  refine go_if_eq (tgt := 23) dX12_count_11 (by decide) (fun c2 => ?_) (fun c2 => ?_)
  · replace H := (gm_ite H).1 c2
    refine go_bipush (v := (-2 : Int32)) dX12_count_23 rfl ?_
    refine go_mask [false, false] (loc' := [none, none]) rfl ?_
    exact okj_X12_count_25 (-2 : Int32) hh1  H
  · replace H := (gm_ite H).2 c2
    refine go_aloadn dX12_count_14 rfl ?_
    refine gm_getR fd_X12_23 dX12_count_15 H (fun x2 H => ?_)
    refine go_iloadn dX12_count_18 rfl ?_
    refine gm_iald dX12_count_19 H (fun x3 H => ?_)
    refine go_goto (tgt := 25) dX12_count_20 (by decide) ?_
    refine go_mask [false, false] (loc' := [none, none]) rfl ?_
    exact okj_X12_count_25 x3 hh1  H
/-! X10_copyFrom -/
def m_X10_copyFrom (v0 : Nat) (v1 : Nat) (h : Hp) : Option Hp :=
  (gfR h v1 10 0).bind fun x1 => (gfR h v0 10 0).bind fun x2 => (gfR h v1 10 0).bind fun x3 => (alen h x3 21).bind fun x4 => (gfR h v0 10 0).bind fun x5 => (alen h x5 21).bind fun x6 => (m_J9_min_7cf53 x4 x6 h).bind fun x7 => (cpI h 21 x1 x2 (0 : Int32) (0 : Int32) x7).bind fun hh1 => (gfI hh1 v1 10 1).bind fun x8 => (pfI hh1 v0 10 1 x8).bind fun hh2 => some hh2
set_option maxRecDepth 20000 in
theorem ok_X10_copyFrom {r : Hp} {v0 : Nat} {v1 : Nat} {h : Hp} (H : m_X10_copyFrom v0 v1 h = some r) : Ev M_X10_copyFrom [aA v0, aA v1] h (none, r) := by
  show Go M_X10_copyFrom (none, r) 0 [some (aA v0), some (aA v1)] [] h
  unfold m_X10_copyFrom at H
  refine go_aloadn dX10_copyFrom_0 rfl ?_
  refine gm_getR fd_X10_9 dX10_copyFrom_1 H (fun x1 H => ?_)
  refine go_iconst (v := (0 : Int32)) dX10_copyFrom_4 rfl ?_
  refine go_aloadn dX10_copyFrom_5 rfl ?_
  refine gm_getR fd_X10_9 dX10_copyFrom_6 H (fun x2 H => ?_)
  refine go_iconst (v := (0 : Int32)) dX10_copyFrom_9 rfl ?_
  refine go_aloadn dX10_copyFrom_10 rfl ?_
  refine gm_getR fd_X10_9 dX10_copyFrom_11 H (fun x3 H => ?_)
  refine gm_alen (by decide) dX10_copyFrom_14 H (fun x4 H => ?_)
  refine go_aloadn dX10_copyFrom_15 rfl ?_
  refine gm_getR fd_X10_9 dX10_copyFrom_16 H (fun x5 H => ?_)
  refine gm_alen (by decide) dX10_copyFrom_19 H (fun x6 H => ?_)
  obtain ⟨x7, ex7, H⟩ := bind_some H
  refine go_callS (vs := [aI x4, aI x6]) (stk := [aI (0 : Int32), aA x2, aI (0 : Int32), aA x1]) (o1 := (some (aI x7), h)) mk_J9_min_7cf53 ss_X10_copyFrom_26 dX10_copyFrom_20 rfl rfl (Nat.le_of_ble_eq_true rfl) (Nat.le_of_ble_eq_true rfl) (ok_J9_min_7cf53 ex7) (show Go M_X10_copyFrom (none, r) 23 [some (aA v0), some (aA v1)] [aI x7, aI (0 : Int32), aA x2, aI (0 : Int32), aA x1] h from ?_)
  refine gm_copyI sc_X10_copyFrom_32 (by decide) dX10_copyFrom_23 (Nat.le_of_ble_eq_true rfl) H (fun hh1 H => ?_)
  refine go_aloadn dX10_copyFrom_26 rfl ?_
  refine go_aloadn dX10_copyFrom_27 rfl ?_
  refine gm_getI fd_X10_13 dX10_copyFrom_28 H (fun x8 H => ?_)
  refine gm_putI fd_X10_13 (Or.inl rfl) dX10_copyFrom_31 H (fun hh2 H => ?_)
  obtain rfl := Option.some.inj H
  exact go_return dX10_copyFrom_34 rfl
/-! X9_copyFrom -/
def b_X9_copyFrom_40 (v0 : Nat) (v1 : Nat) (k : Int32 → Hp → Option Hp) (v2 : Int32) (h : Hp) : Option Hp :=
  if (2 : Int32) ≤ v2 then (some h) else (gfR h v0 9 4).bind fun x1 => (alR h x1 24 v2).bind fun x2 => (gfR h v1 9 4).bind fun x3 => (alR h x3 24 v2).bind fun x4 => (rc h x2 1 (m_X0_copyFrom x2 x4 h)).bind fun x5 => (gfR x5 v0 9 5).bind fun x6 => (alR x5 x6 25 v2).bind fun x7 => (gfR x5 v1 9 5).bind fun x8 => (alR x5 x8 25 v2).bind fun x9 => (rc x5 x7 6 (m_X6_copyFrom x7 x9 x5)).bind fun x10 => (gfR x10 v0 9 6).bind fun x11 => (alR x10 x11 26 v2).bind fun x12 => (gfR x10 v1 9 6).bind fun x13 => (alR x10 x13 26 v2).bind fun x14 => (rc x10 x12 4 (m_X3_copyFrom x12 x14 x10)).bind fun x15 => k (v2 + (1 : Int32)) x15
set_option maxRecDepth 20000 in
theorem okb_X9_copyFrom_40 {r : Hp} (v0 : Nat) (v1 : Nat) (k : Int32 → Hp → Option Hp) (v2 : Int32) (h : Hp) (Hk : ∀ (v2q : Int32) (hq : Hp), k v2q hq = some r → Go M_X9_copyFrom (none, r) 40 [some (aA v0), some (aA v1), some (aI v2q)] [] hq) (H : b_X9_copyFrom_40 v0 v1 k v2 h = some r) : Go M_X9_copyFrom (none, r) 40 [some (aA v0), some (aA v1), some (aI v2)] [] h := by
  unfold b_X9_copyFrom_40 at H
  refine go_iloadn dX9_copyFrom_40 rfl ?_
  refine go_iconst (v := (2 : Int32)) dX9_copyFrom_41 rfl ?_
  refine go_icmp_ge (tgt := 96) dX9_copyFrom_42 (by decide) (fun c1 => ?_) (fun c1 => ?_)
  · replace H := (gm_ite H).1 c1
    obtain rfl := Option.some.inj H
    exact go_return dX9_copyFrom_96 rfl
  · replace H := (gm_ite H).2 c1
    refine go_aloadn dX9_copyFrom_45 rfl ?_
    refine gm_getR fd_X9_31 dX9_copyFrom_46 H (fun x1 H => ?_)
    refine go_iloadn dX9_copyFrom_49 rfl ?_
    refine gm_aald (by decide) dX9_copyFrom_50 H (fun x2 H => ?_)
    refine go_aloadn dX9_copyFrom_51 rfl ?_
    refine gm_getR fd_X9_31 dX9_copyFrom_52 H (fun x3 H => ?_)
    refine go_iloadn dX9_copyFrom_55 rfl ?_
    refine gm_aald (by decide) dX9_copyFrom_56 H (fun x4 H => ?_)
    obtain ⟨c2, x5, ex5, H⟩ := gm_rc H
    refine go_callV (vs := [aA x4]) (stk := []) (o1 := (none, x5)) mk_X0_copyFrom sv_X9_copyFrom_60 cl_X0 rfl dX9_copyFrom_57 c2 rfl rfl (Nat.le_of_ble_eq_true rfl) (Nat.le_of_ble_eq_true rfl) (ok_X0_copyFrom ex5) (show Go M_X9_copyFrom (none, r) 60 [some (aA v0), some (aA v1), some (aI v2)] [] x5 from ?_)
    refine go_aloadn dX9_copyFrom_60 rfl ?_
    refine gm_getR fd_X9_37 dX9_copyFrom_61 H (fun x6 H => ?_)
    refine go_iloadn dX9_copyFrom_64 rfl ?_
    refine gm_aald (by decide) dX9_copyFrom_65 H (fun x7 H => ?_)
    refine go_aloadn dX9_copyFrom_66 rfl ?_
    refine gm_getR fd_X9_37 dX9_copyFrom_67 H (fun x8 H => ?_)
    refine go_iloadn dX9_copyFrom_70 rfl ?_
    refine gm_aald (by decide) dX9_copyFrom_71 H (fun x9 H => ?_)
    obtain ⟨c3, x10, ex10, H⟩ := gm_rc H
    refine go_callV (vs := [aA x9]) (stk := []) (o1 := (none, x10)) mk_X6_copyFrom sv_X9_copyFrom_63 cl_X6 rfl dX9_copyFrom_72 c3 rfl rfl (Nat.le_of_ble_eq_true rfl) (Nat.le_of_ble_eq_true rfl) (ok_X6_copyFrom ex10) (show Go M_X9_copyFrom (none, r) 75 [some (aA v0), some (aA v1), some (aI v2)] [] x10 from ?_)
    refine go_aloadn dX9_copyFrom_75 rfl ?_
    refine gm_getR fd_X9_43 dX9_copyFrom_76 H (fun x11 H => ?_)
    refine go_iloadn dX9_copyFrom_79 rfl ?_
    refine gm_aald (by decide) dX9_copyFrom_80 H (fun x12 H => ?_)
    refine go_aloadn dX9_copyFrom_81 rfl ?_
    refine gm_getR fd_X9_43 dX9_copyFrom_82 H (fun x13 H => ?_)
    refine go_iloadn dX9_copyFrom_85 rfl ?_
    refine gm_aald (by decide) dX9_copyFrom_86 H (fun x14 H => ?_)
    obtain ⟨c4, x15, ex15, H⟩ := gm_rc H
    refine go_callV (vs := [aA x14]) (stk := []) (o1 := (none, x15)) mk_X3_copyFrom sv_X9_copyFrom_66 cl_X3 rfl dX9_copyFrom_87 c4 rfl rfl (Nat.le_of_ble_eq_true rfl) (Nat.le_of_ble_eq_true rfl) (ok_X3_copyFrom ex15) (show Go M_X9_copyFrom (none, r) 90 [some (aA v0), some (aA v1), some (aI v2)] [] x15 from ?_)
    refine go_iinc (v := (v2 + (1 : Int32))) (loc2 := [some (aA v0), some (aA v1), some (aI (v2 + (1 : Int32)))]) dX9_copyFrom_90 rfl rfl (by decide) rfl ?_
    refine go_goto (tgt := 40) dX9_copyFrom_93 (by decide) ?_
    exact Hk (v2 + (1 : Int32)) x15 H
def l_X9_copyFrom_40 (v0 : Nat) (v1 : Nat) (v2 : Int32) (h : Hp) : Option Hp := loopK FUEL (fun (k : Int32 × Hp → Option Hp) (s : Int32 × Hp) => b_X9_copyFrom_40 v0 v1 (fun v2q hq => k (v2q, hq)) s.1 s.2) (v2, h)
theorem okl_X9_copyFrom_40 {r : Hp} (v0 : Nat) (v1 : Nat) (v2 : Int32) (h : Hp) (H : l_X9_copyFrom_40 v0 v1 v2 h = some r) : Go M_X9_copyFrom (none, r) 40 [some (aA v0), some (aA v1), some (aI v2)] [] h := by
  unfold l_X9_copyFrom_40 at H
  exact go_loop (σ := Int32 × Hp) (body := (fun (k : Int32 × Hp → Option Hp) (s : Int32 × Hp) => b_X9_copyFrom_40 v0 v1 (fun v2q hq => k (v2q, hq)) s.1 s.2)) (fun s => [some (aA v0), some (aA v1), some (aI s.1)]) (fun s => s.2) (fun k s Hk H => okb_X9_copyFrom_40 v0 v1 (fun v2q hq => k (v2q, hq)) s.1 s.2  (fun v2q hq H => Hk (v2q, hq) H) H) FUEL (v2, h) H
def m_X9_copyFrom (v0 : Nat) (v1 : Nat) (h : Hp) : Option Hp :=
  (gfR h v0 9 0).bind fun x1 => (gfR h v1 9 0).bind fun x2 => (rc h x1 10 (m_X10_copyFrom x1 x2 h)).bind fun x3 => (gfI x3 v1 9 1).bind fun x4 => (pfI x3 v0 9 1 x4).bind fun hh1 => (gfI hh1 v1 9 2).bind fun x5 => (pfI hh1 v0 9 2 x5).bind fun hh2 => (gfR hh2 v1 9 3).bind fun x6 => (gfR hh2 v0 9 3).bind fun x7 => (m_X5_copy x6 x7 hh2).bind fun x8 => l_X9_copyFrom_40 v0 v1 (0 : Int32) x8
set_option maxRecDepth 20000 in
theorem ok_X9_copyFrom {r : Hp} {v0 : Nat} {v1 : Nat} {h : Hp} (H : m_X9_copyFrom v0 v1 h = some r) : Ev M_X9_copyFrom [aA v0, aA v1] h (none, r) := by
  show Go M_X9_copyFrom (none, r) 0 [some (aA v0), some (aA v1), none] [] h
  unfold m_X9_copyFrom at H
  refine go_aloadn dX9_copyFrom_0 rfl ?_
  refine gm_getR fd_X9_12 dX9_copyFrom_1 H (fun x1 H => ?_)
  refine go_aloadn dX9_copyFrom_4 rfl ?_
  refine gm_getR fd_X9_12 dX9_copyFrom_5 H (fun x2 H => ?_)
  obtain ⟨c1, x3, ex3, H⟩ := gm_rc H
  refine go_callV (vs := [aA x2]) (stk := []) (o1 := (none, x3)) mk_X10_copyFrom sv_X9_copyFrom_50 cl_X10 rfl dX9_copyFrom_8 c1 rfl rfl (Nat.le_of_ble_eq_true rfl) (Nat.le_of_ble_eq_true rfl) (ok_X10_copyFrom ex3) (show Go M_X9_copyFrom (none, r) 11 [some (aA v0), some (aA v1), none] [] x3 from ?_)
  refine go_aloadn dX9_copyFrom_11 rfl ?_
  refine go_aloadn dX9_copyFrom_12 rfl ?_
  refine gm_getI fd_X9_18 dX9_copyFrom_13 H (fun x4 H => ?_)
  refine gm_putI fd_X9_18 (Or.inl rfl) dX9_copyFrom_16 H (fun hh1 H => ?_)
  refine go_aloadn dX9_copyFrom_19 rfl ?_
  refine go_aloadn dX9_copyFrom_20 rfl ?_
  refine gm_getI fd_X9_22 dX9_copyFrom_21 H (fun x5 H => ?_)
  refine gm_putI fd_X9_22 (Or.inl rfl) dX9_copyFrom_24 H (fun hh2 H => ?_)
  refine go_aloadn dX9_copyFrom_27 rfl ?_
  refine gm_getR fd_X9_25 dX9_copyFrom_28 H (fun x6 H => ?_)
  refine go_aloadn dX9_copyFrom_31 rfl ?_
  refine gm_getR fd_X9_25 dX9_copyFrom_32 H (fun x7 H => ?_)
  obtain ⟨x8, ex8, H⟩ := bind_some H
  refine go_callS (vs := [aA x6, aA x7]) (stk := []) (o1 := (none, x8)) mk_X5_copy ss_X9_copyFrom_54 dX9_copyFrom_35 rfl rfl (Nat.le_of_ble_eq_true rfl) (Nat.le_of_ble_eq_true rfl) (ok_X5_copy ex8) (show Go M_X9_copyFrom (none, r) 38 [some (aA v0), some (aA v1), none] [] x8 from ?_)
  refine go_iconst (v := (0 : Int32)) dX9_copyFrom_38 rfl ?_
  refine go_istoren (loc2 := [some (aA v0), some (aA v1), some (aI (0 : Int32))]) dX9_copyFrom_39 rfl (by decide) rfl ?_
  exact okl_X9_copyFrom_40 v0 v1 (0 : Int32) x8 H
/-! X11_image -/
def j_X11_image_41 (v0 : Nat) (v2 : Nat)  (h : Hp) : Option (Int32 × Hp) :=
  (gfR h v0 11 0).bind fun x1 => (rc h v2 9 (m_X9_copyFrom v2 x1 h)).bind fun x2 => some ((1 : Int32), x2)
set_option maxRecDepth 20000 in
theorem okj_X11_image_41 {r : (Int32 × Hp)} (v0 : Nat) (v2 : Nat)  (h : Hp) (H : j_X11_image_41 v0 v2 h = some r) : Go M_X11_image (some (aI r.1), r.2) 41 [some (aA v0), none, some (aA v2)] [] h := by
  unfold j_X11_image_41 at H
  refine go_aloadn dX11_image_41 rfl ?_
  refine go_aloadn dX11_image_42 rfl ?_
  refine gm_getR fd_X11_10 dX11_image_43 H (fun x1 H => ?_)
  obtain ⟨c1, x2, ex2, H⟩ := gm_rc H
  refine go_callV (vs := [aA x1]) (stk := []) (o1 := (none, x2)) mk_X9_copyFrom sv_X11_image_347 cl_X9 rfl dX11_image_46 c1 rfl rfl (Nat.le_of_ble_eq_true rfl) (Nat.le_of_ble_eq_true rfl) (ok_X9_copyFrom ex2) (show Go M_X11_image (some (aI r.1), r.2) 49 [some (aA v0), none, some (aA v2)] [] x2 from ?_)
  refine go_iconst (v := (1 : Int32)) dX11_image_49 rfl ?_
  obtain rfl := Option.some.inj H
  exact go_ireturn (x := (1 : Int32)) dX11_image_50 (tyI_bool rfl (by decide))
def m_X11_image (v0 : Nat) (v1 : Int32) (h : Hp) : Option (Int32 × Hp) :=
  if v1 < 0 then (some ((0 : Int32), h)) else (gfR h v0 11 1).bind fun x1 => (alen h x1 27).bind fun x2 => if v1 < x2 then ((gfR h v0 11 1).bind fun x3 => (alR h x3 27 v1).bind fun x4 => (nz x4).bind fun _ => if ¬ x4 = 0 then j_X11_image_41 v0 x4 h else (nw h 9 7).bind fun hh1 => (rc hh1 (hTop h) 9 (m_X9_init (hTop h) hh1)).bind fun x5 => (gfR x5 v0 11 1).bind fun x6 => (asR x5 x6 27 v1 (hTop h) 9).bind fun hh2 => j_X11_image_41 v0 (hTop h) hh2) else some ((0 : Int32), h)
set_option maxRecDepth 20000 in
theorem ok_X11_image {r : (Int32 × Hp)} {v0 : Nat} {v1 : Int32} {h : Hp} (H : m_X11_image v0 v1 h = some r) : Ev M_X11_image [aA v0, aI v1] h (some (aI r.1), r.2) := by
  show Go M_X11_image (some (aI r.1), r.2) 0 [some (aA v0), some (aI v1), none] [] h
  unfold m_X11_image at H
  refine go_iloadn dX11_image_0 rfl ?_
  refine go_if_lt (tgt := 13) dX11_image_1 (by decide) (fun c1 => ?_) (fun c1 => ?_)
  · replace H := (gm_ite H).1 c1
    refine go_iconst (v := (0 : Int32)) dX11_image_13 rfl ?_
    obtain rfl := Option.some.inj H
    exact go_ireturn (x := (0 : Int32)) dX11_image_14 (tyI_bool rfl (by decide))
  · replace H := (gm_ite H).2 c1
    refine go_iloadn dX11_image_4 rfl ?_
    refine go_aloadn dX11_image_5 rfl ?_
    refine gm_getR fd_X11_16 dX11_image_6 H (fun x1 H => ?_)
    refine gm_alen (by decide) dX11_image_9 H (fun x2 H => ?_)
    refine go_icmp_lt (tgt := 15) dX11_image_10 (by decide) (fun c2 => ?_) (fun c2 => ?_)
    · replace H := (gm_ite H).1 c2
      refine go_aloadn dX11_image_15 rfl ?_
      refine gm_getR fd_X11_16 dX11_image_16 H (fun x3 H => ?_)
      refine go_iloadn dX11_image_19 rfl ?_
      refine gm_aald (by decide) dX11_image_20 H (fun x4 H => ?_)
      refine go_astoren (loc2 := [some (aA v0), some (aI v1), some (aA x4)]) dX11_image_21 rfl (by decide) rfl ?_
      refine go_aloadn dX11_image_22 rfl ?_
      obtain ⟨c4, H⟩ := gm_nz H
      refine go_ifnonnull (tgt := 41) dX11_image_23 (by decide) c4 (fun c3 => ?_) (fun c3 => ?_)
      · replace H := (gm_ite H).1 c3
        refine go_mask [true, false, true] (loc' := [some (aA v0), none, some (aA x4)]) rfl ?_
        exact okj_X11_image_41 v0 x4 h  H
      · replace H := (gm_ite H).2 (fun q => q c3)
        refine gm_new cl_X9 dv_X9 tw167 dX11_image_26 H (fun hh1 H => ?_)
        refine go_dupA dX11_image_29 ?_
        obtain ⟨c5, x5, ex5, H⟩ := gm_rc H
        refine go_callI (vs := []) (stk := [aA (hTop h)]) (o1 := (none, x5)) mk_X9_init si_X11_image_9 dX11_image_30 c5 (by decide) rfl rfl (Nat.le_of_ble_eq_true rfl) (Nat.le_of_ble_eq_true rfl) (ok_X9_init ex5) (show Go M_X11_image (some (aI r.1), r.2) 33 [some (aA v0), some (aI v1), some (aA x4)] [aA (hTop h)] x5 from ?_)
        refine go_astoren (loc2 := [some (aA v0), some (aI v1), some (aA (hTop h))]) dX11_image_33 rfl (by decide) rfl ?_
        refine go_aloadn dX11_image_34 rfl ?_
        refine gm_getR fd_X11_16 dX11_image_35 H (fun x6 H => ?_)
        refine go_iloadn dX11_image_38 rfl ?_
        refine go_aloadn dX11_image_39 rfl ?_
        refine gm_aast (by decide) cl_X9 rfl dX11_image_40 H (fun hh2 H => ?_)
        refine go_mask [true, false, true] (loc' := [some (aA v0), none, some (aA (hTop h))]) rfl ?_
        exact okj_X11_image_41 v0 (hTop h) hh2  H
    · replace H := (gm_ite H).2 c2
      refine go_iconst (v := (0 : Int32)) dX11_image_13 rfl ?_
      obtain rfl := Option.some.inj H
      exact go_ireturn (x := (0 : Int32)) dX11_image_14 (tyI_bool rfl (by decide))
/-! X12_copyRow -/
def b_X12_copyRow_3 (v0 : Nat) (v1 : Int32) (v2 : Int32) (v3 : Int32) (k : Int32 → Hp → Option Hp) (v4 : Int32) (h : Hp) : Option Hp :=
  if v1 ≤ v4 then (some h) else (alI h v0 ((v1 * v2) + v4)).bind fun x1 => (asI h v0 ((v1 * v3) + v4) x1).bind fun hh1 => k (v4 + (1 : Int32)) hh1
set_option maxRecDepth 20000 in
theorem okb_X12_copyRow_3 {r : Hp} (v0 : Nat) (v1 : Int32) (v2 : Int32) (v3 : Int32) (k : Int32 → Hp → Option Hp) (v4 : Int32) (h : Hp) (Hk : ∀ (v4q : Int32) (hq : Hp), k v4q hq = some r → Go M_X12_copyRow (none, r) 3 [some (aA v0), some (aI v1), some (aI v2), some (aI v3), some (aI v4q)] [] hq) (H : b_X12_copyRow_3 v0 v1 v2 v3 k v4 h = some r) : Go M_X12_copyRow (none, r) 3 [some (aA v0), some (aI v1), some (aI v2), some (aI v3), some (aI v4)] [] h := by
  unfold b_X12_copyRow_3 at H
  refine go_iload dX12_copyRow_3 rfl ?_
  refine go_iloadn dX12_copyRow_5 rfl ?_
  refine go_icmp_ge (tgt := 31) dX12_copyRow_6 (by decide) (fun c1 => ?_) (fun c1 => ?_)
  · replace H := (gm_ite H).1 c1
    obtain rfl := Option.some.inj H
    exact go_return dX12_copyRow_31 rfl
  · replace H := (gm_ite H).2 c1
    refine go_aloadn dX12_copyRow_9 rfl ?_
    refine go_iloadn dX12_copyRow_10 rfl ?_
    refine go_iloadn dX12_copyRow_11 rfl ?_
    refine go_imul dX12_copyRow_12 ?_
    refine go_iload dX12_copyRow_13 rfl ?_
    refine go_iadd dX12_copyRow_15 ?_
    refine go_aloadn dX12_copyRow_16 rfl ?_
    refine go_iloadn dX12_copyRow_17 rfl ?_
    refine go_iloadn dX12_copyRow_18 rfl ?_
    refine go_imul dX12_copyRow_19 ?_
    refine go_iload dX12_copyRow_20 rfl ?_
    refine go_iadd dX12_copyRow_22 ?_
    refine gm_iald dX12_copyRow_23 H (fun x1 H => ?_)
    refine gm_iast dX12_copyRow_24 H (fun hh1 H => ?_)
    refine go_iinc (v := (v4 + (1 : Int32))) (loc2 := [some (aA v0), some (aI v1), some (aI v2), some (aI v3), some (aI (v4 + (1 : Int32)))]) dX12_copyRow_25 rfl rfl (by decide) rfl ?_
    refine go_goto (tgt := 3) dX12_copyRow_28 (by decide) ?_
    exact Hk (v4 + (1 : Int32)) hh1 H
def l_X12_copyRow_3 (v0 : Nat) (v1 : Int32) (v2 : Int32) (v3 : Int32) (v4 : Int32) (h : Hp) : Option Hp := loopK FUEL (fun (k : Int32 × Hp → Option Hp) (s : Int32 × Hp) => b_X12_copyRow_3 v0 v1 v2 v3 (fun v4q hq => k (v4q, hq)) s.1 s.2) (v4, h)
theorem okl_X12_copyRow_3 {r : Hp} (v0 : Nat) (v1 : Int32) (v2 : Int32) (v3 : Int32) (v4 : Int32) (h : Hp) (H : l_X12_copyRow_3 v0 v1 v2 v3 v4 h = some r) : Go M_X12_copyRow (none, r) 3 [some (aA v0), some (aI v1), some (aI v2), some (aI v3), some (aI v4)] [] h := by
  unfold l_X12_copyRow_3 at H
  exact go_loop (σ := Int32 × Hp) (body := (fun (k : Int32 × Hp → Option Hp) (s : Int32 × Hp) => b_X12_copyRow_3 v0 v1 v2 v3 (fun v4q hq => k (v4q, hq)) s.1 s.2)) (fun s => [some (aA v0), some (aI v1), some (aI v2), some (aI v3), some (aI s.1)]) (fun s => s.2) (fun k s Hk H => okb_X12_copyRow_3 v0 v1 v2 v3 (fun v4q hq => k (v4q, hq)) s.1 s.2  (fun v4q hq H => Hk (v4q, hq) H) H) FUEL (v4, h) H
def m_X12_copyRow (v0 : Nat) (v1 : Int32) (v2 : Int32) (v3 : Int32) (h : Hp) : Option Hp :=
  l_X12_copyRow_3 v0 v1 v2 v3 (0 : Int32) h
set_option maxRecDepth 20000 in
theorem ok_X12_copyRow {r : Hp} {v0 : Nat} {v1 : Int32} {v2 : Int32} {v3 : Int32} {h : Hp} (H : m_X12_copyRow v0 v1 v2 v3 h = some r) : Ev M_X12_copyRow [aA v0, aI v1, aI v2, aI v3] h (none, r) := by
  show Go M_X12_copyRow (none, r) 0 [some (aA v0), some (aI v1), some (aI v2), some (aI v3), none] [] h
  unfold m_X12_copyRow at H
  refine go_iconst (v := (0 : Int32)) dX12_copyRow_0 rfl ?_
  refine go_istore (loc2 := [some (aA v0), some (aI v1), some (aI v2), some (aI v3), some (aI (0 : Int32))]) dX12_copyRow_1 (by decide) rfl ?_
  exact okl_X12_copyRow_3 v0 v1 v2 v3 (0 : Int32) h H
/-! X12_copyAll -/
def b_X12_copyAll_2 (v0 : Nat) (v1 : Int32) (v2 : Int32) (K39 : Hp → Option Hp) (k : Int32 → Hp → Option Hp) (v3 : Int32) (h : Hp) : Option Hp :=
  if (600 : Int32) ≤ v3 then K39 h else (gfR h v0 12 1).bind fun x1 => (gfR h v0 12 1).bind fun x2 => (alB h x2 (((600 : Int32) * v1) + v3)).bind fun x3 => (asB h x1 (((600 : Int32) * v2) + v3) x3).bind fun hh1 => k (v3 + (1 : Int32)) hh1
set_option maxRecDepth 20000 in
theorem okb_X12_copyAll_2 {r : Hp} (v0 : Nat) (v1 : Int32) (v2 : Int32) (K39 : Hp → Option Hp) (k : Int32 → Hp → Option Hp) (v3 : Int32) (h : Hp) (HK39 : ∀   (hq : Hp), K39 hq = some r → Go M_X12_copyAll (none, r) 39 [some (aA v0), some (aI v1), some (aI v2), none] [] hq) (Hk : ∀ (v3q : Int32) (hq : Hp), k v3q hq = some r → Go M_X12_copyAll (none, r) 2 [some (aA v0), some (aI v1), some (aI v2), some (aI v3q)] [] hq) (H : b_X12_copyAll_2 v0 v1 v2 K39 k v3 h = some r) : Go M_X12_copyAll (none, r) 2 [some (aA v0), some (aI v1), some (aI v2), some (aI v3)] [] h := by
  unfold b_X12_copyAll_2 at H
  refine go_iloadn dX12_copyAll_2 rfl ?_
  refine go_sipush (v := (600 : Int32)) dX12_copyAll_3 rfl ?_
  refine go_icmp_ge (tgt := 39) dX12_copyAll_6 (by decide) (fun c1 => ?_) (fun c1 => ?_)
  · replace H := (gm_ite H).1 c1
    refine go_mask [true, true, true, false] (loc' := [some (aA v0), some (aI v1), some (aI v2), none]) rfl ?_
    exact HK39 h H
  · replace H := (gm_ite H).2 c1
    refine go_aloadn dX12_copyAll_9 rfl ?_
    refine gm_getR fd_X12_7 dX12_copyAll_10 H (fun x1 H => ?_)
    refine go_sipush (v := (600 : Int32)) dX12_copyAll_13 rfl ?_
    refine go_iloadn dX12_copyAll_16 rfl ?_
    refine go_imul dX12_copyAll_17 ?_
    refine go_iloadn dX12_copyAll_18 rfl ?_
    refine go_iadd dX12_copyAll_19 ?_
    refine go_aloadn dX12_copyAll_20 rfl ?_
    refine gm_getR fd_X12_7 dX12_copyAll_21 H (fun x2 H => ?_)
    refine go_sipush (v := (600 : Int32)) dX12_copyAll_24 rfl ?_
    refine go_iloadn dX12_copyAll_27 rfl ?_
    refine go_imul dX12_copyAll_28 ?_
    refine go_iloadn dX12_copyAll_29 rfl ?_
    refine go_iadd dX12_copyAll_30 ?_
    refine gm_bald dX12_copyAll_31 H (fun x3 H => ?_)
    refine gm_bast dX12_copyAll_32 H (fun hh1 H => ?_)
    refine go_iinc (v := (v3 + (1 : Int32))) (loc2 := [some (aA v0), some (aI v1), some (aI v2), some (aI (v3 + (1 : Int32)))]) dX12_copyAll_33 rfl rfl (by decide) rfl ?_
    refine go_goto (tgt := 2) dX12_copyAll_36 (by decide) ?_
    exact Hk (v3 + (1 : Int32)) hh1 H
def l_X12_copyAll_2 (v0 : Nat) (v1 : Int32) (v2 : Int32) (K39 : Hp → Option Hp) (v3 : Int32) (h : Hp) : Option Hp := loopK FUEL (fun (k : Int32 × Hp → Option Hp) (s : Int32 × Hp) => b_X12_copyAll_2 v0 v1 v2 K39 (fun v3q hq => k (v3q, hq)) s.1 s.2) (v3, h)
theorem okl_X12_copyAll_2 {r : Hp} (v0 : Nat) (v1 : Int32) (v2 : Int32) (K39 : Hp → Option Hp) (v3 : Int32) (h : Hp) (HK39 : ∀   (hq : Hp), K39 hq = some r → Go M_X12_copyAll (none, r) 39 [some (aA v0), some (aI v1), some (aI v2), none] [] hq) (H : l_X12_copyAll_2 v0 v1 v2 K39 v3 h = some r) : Go M_X12_copyAll (none, r) 2 [some (aA v0), some (aI v1), some (aI v2), some (aI v3)] [] h := by
  unfold l_X12_copyAll_2 at H
  exact go_loop (σ := Int32 × Hp) (body := (fun (k : Int32 × Hp → Option Hp) (s : Int32 × Hp) => b_X12_copyAll_2 v0 v1 v2 K39 (fun v3q hq => k (v3q, hq)) s.1 s.2)) (fun s => [some (aA v0), some (aI v1), some (aI v2), some (aI s.1)]) (fun s => s.2) (fun k s Hk H => okb_X12_copyAll_2 v0 v1 v2 K39 (fun v3q hq => k (v3q, hq)) s.1 s.2 HK39 (fun v3q hq H => Hk (v3q, hq) H) H) FUEL (v3, h) H
def j_X12_copyAll_39 (v0 : Nat) (v1 : Int32) (v2 : Int32)  (h : Hp) : Option Hp :=
  (gfR h v0 12 2).bind fun x1 => (m_X12_copyRow x1 (1 : Int32) v1 v2 h).bind fun x2 => (gfR x2 v0 12 3).bind fun x3 => (m_X12_copyRow x3 (1 : Int32) v1 v2 x2).bind fun x4 => (gfR x4 v0 12 4).bind fun x5 => (m_X12_copyRow x5 (1 : Int32) v1 v2 x4).bind fun x6 => (gfR x6 v0 12 5).bind fun x7 => (m_X12_copyRow x7 (3 : Int32) v1 v2 x6).bind fun x8 => (gfR x8 v0 12 6).bind fun x9 => (m_X12_copyRow x9 (3052 : Int32) v1 v2 x8).bind fun x10 => (gfR x10 v0 12 7).bind fun x11 => (m_X12_copyRow x11 (114 : Int32) v1 v2 x10).bind fun x12 => (gfR x12 v0 12 8).bind fun x13 => (m_X12_copyRow x13 (50 : Int32) v1 v2 x12).bind fun x14 => some x14
set_option maxRecDepth 20000 in
theorem okj_X12_copyAll_39 {r : Hp} (v0 : Nat) (v1 : Int32) (v2 : Int32)  (h : Hp) (H : j_X12_copyAll_39 v0 v1 v2 h = some r) : Go M_X12_copyAll (none, r) 39 [some (aA v0), some (aI v1), some (aI v2), none] [] h := by
  unfold j_X12_copyAll_39 at H
  refine go_aloadn dX12_copyAll_39 rfl ?_
  refine gm_getR fd_X12_13 dX12_copyAll_40 H (fun x1 H => ?_)
  refine go_iconst (v := (1 : Int32)) dX12_copyAll_43 rfl ?_
  refine go_iloadn dX12_copyAll_44 rfl ?_
  refine go_iloadn dX12_copyAll_45 rfl ?_
  obtain ⟨x2, ex2, H⟩ := bind_some H
  refine go_callS (vs := [aA x1, aI (1 : Int32), aI v1, aI v2]) (stk := []) (o1 := (none, x2)) mk_X12_copyRow ss_X12_copyAll_68 dX12_copyAll_46 rfl rfl (Nat.le_of_ble_eq_true rfl) (Nat.le_of_ble_eq_true rfl) (ok_X12_copyRow ex2) (show Go M_X12_copyAll (none, r) 49 [some (aA v0), some (aI v1), some (aI v2), none] [] x2 from ?_)
  refine go_aloadn dX12_copyAll_49 rfl ?_
  refine gm_getR fd_X12_17 dX12_copyAll_50 H (fun x3 H => ?_)
  refine go_iconst (v := (1 : Int32)) dX12_copyAll_53 rfl ?_
  refine go_iloadn dX12_copyAll_54 rfl ?_
  refine go_iloadn dX12_copyAll_55 rfl ?_
  obtain ⟨x4, ex4, H⟩ := bind_some H
  refine go_callS (vs := [aA x3, aI (1 : Int32), aI v1, aI v2]) (stk := []) (o1 := (none, x4)) mk_X12_copyRow ss_X12_copyAll_68 dX12_copyAll_56 rfl rfl (Nat.le_of_ble_eq_true rfl) (Nat.le_of_ble_eq_true rfl) (ok_X12_copyRow ex4) (show Go M_X12_copyAll (none, r) 59 [some (aA v0), some (aI v1), some (aI v2), none] [] x4 from ?_)
  refine go_aloadn dX12_copyAll_59 rfl ?_
  refine gm_getR fd_X12_20 dX12_copyAll_60 H (fun x5 H => ?_)
  refine go_iconst (v := (1 : Int32)) dX12_copyAll_63 rfl ?_
  refine go_iloadn dX12_copyAll_64 rfl ?_
  refine go_iloadn dX12_copyAll_65 rfl ?_
  obtain ⟨x6, ex6, H⟩ := bind_some H
  refine go_callS (vs := [aA x5, aI (1 : Int32), aI v1, aI v2]) (stk := []) (o1 := (none, x6)) mk_X12_copyRow ss_X12_copyAll_68 dX12_copyAll_66 rfl rfl (Nat.le_of_ble_eq_true rfl) (Nat.le_of_ble_eq_true rfl) (ok_X12_copyRow ex6) (show Go M_X12_copyAll (none, r) 69 [some (aA v0), some (aI v1), some (aI v2), none] [] x6 from ?_)
  refine go_aloadn dX12_copyAll_69 rfl ?_
  refine gm_getR fd_X12_23 dX12_copyAll_70 H (fun x7 H => ?_)
  refine go_iconst (v := (3 : Int32)) dX12_copyAll_73 rfl ?_
  refine go_iloadn dX12_copyAll_74 rfl ?_
  refine go_iloadn dX12_copyAll_75 rfl ?_
  obtain ⟨x8, ex8, H⟩ := bind_some H
  refine go_callS (vs := [aA x7, aI (3 : Int32), aI v1, aI v2]) (stk := []) (o1 := (none, x8)) mk_X12_copyRow ss_X12_copyAll_68 dX12_copyAll_76 rfl rfl (Nat.le_of_ble_eq_true rfl) (Nat.le_of_ble_eq_true rfl) (ok_X12_copyRow ex8) (show Go M_X12_copyAll (none, r) 79 [some (aA v0), some (aI v1), some (aI v2), none] [] x8 from ?_)
  refine go_aloadn dX12_copyAll_79 rfl ?_
  refine gm_getR fd_X12_26 dX12_copyAll_80 H (fun x9 H => ?_)
  refine go_sipush (v := (3052 : Int32)) dX12_copyAll_83 rfl ?_
  refine go_iloadn dX12_copyAll_86 rfl ?_
  refine go_iloadn dX12_copyAll_87 rfl ?_
  obtain ⟨x10, ex10, H⟩ := bind_some H
  refine go_callS (vs := [aA x9, aI (3052 : Int32), aI v1, aI v2]) (stk := []) (o1 := (none, x10)) mk_X12_copyRow ss_X12_copyAll_68 dX12_copyAll_88 rfl rfl (Nat.le_of_ble_eq_true rfl) (Nat.le_of_ble_eq_true rfl) (ok_X12_copyRow ex10) (show Go M_X12_copyAll (none, r) 91 [some (aA v0), some (aI v1), some (aI v2), none] [] x10 from ?_)
  refine go_aloadn dX12_copyAll_91 rfl ?_
  refine gm_getR fd_X12_29 dX12_copyAll_92 H (fun x11 H => ?_)
  refine go_bipush (v := (114 : Int32)) dX12_copyAll_95 rfl ?_
  refine go_iloadn dX12_copyAll_97 rfl ?_
  refine go_iloadn dX12_copyAll_98 rfl ?_
  obtain ⟨x12, ex12, H⟩ := bind_some H
  refine go_callS (vs := [aA x11, aI (114 : Int32), aI v1, aI v2]) (stk := []) (o1 := (none, x12)) mk_X12_copyRow ss_X12_copyAll_68 dX12_copyAll_99 rfl rfl (Nat.le_of_ble_eq_true rfl) (Nat.le_of_ble_eq_true rfl) (ok_X12_copyRow ex12) (show Go M_X12_copyAll (none, r) 102 [some (aA v0), some (aI v1), some (aI v2), none] [] x12 from ?_)
  refine go_aloadn dX12_copyAll_102 rfl ?_
  refine gm_getR fd_X12_32 dX12_copyAll_103 H (fun x13 H => ?_)
  refine go_bipush (v := (50 : Int32)) dX12_copyAll_106 rfl ?_
  refine go_iloadn dX12_copyAll_108 rfl ?_
  refine go_iloadn dX12_copyAll_109 rfl ?_
  obtain ⟨x14, ex14, H⟩ := bind_some H
  refine go_callS (vs := [aA x13, aI (50 : Int32), aI v1, aI v2]) (stk := []) (o1 := (none, x14)) mk_X12_copyRow ss_X12_copyAll_68 dX12_copyAll_110 rfl rfl (Nat.le_of_ble_eq_true rfl) (Nat.le_of_ble_eq_true rfl) (ok_X12_copyRow ex14) (show Go M_X12_copyAll (none, r) 113 [some (aA v0), some (aI v1), some (aI v2), none] [] x14 from ?_)
  obtain rfl := Option.some.inj H
  exact go_return dX12_copyAll_113 rfl
def m_X12_copyAll (v0 : Nat) (v1 : Int32) (v2 : Int32) (h : Hp) : Option Hp :=
  l_X12_copyAll_2 v0 v1 v2 (fun hz1 => j_X12_copyAll_39 v0 v1 v2 hz1) (0 : Int32) h
set_option maxRecDepth 20000 in
theorem ok_X12_copyAll {r : Hp} {v0 : Nat} {v1 : Int32} {v2 : Int32} {h : Hp} (H : m_X12_copyAll v0 v1 v2 h = some r) : Ev M_X12_copyAll [aA v0, aI v1, aI v2] h (none, r) := by
  show Go M_X12_copyAll (none, r) 0 [some (aA v0), some (aI v1), some (aI v2), none] [] h
  unfold m_X12_copyAll at H
  refine go_iconst (v := (0 : Int32)) dX12_copyAll_0 rfl ?_
  refine go_istoren (loc2 := [some (aA v0), some (aI v1), some (aI v2), some (aI (0 : Int32))]) dX12_copyAll_1 rfl (by decide) rfl ?_
  refine okl_X12_copyAll_2 v0 v1 v2 (fun hz1 => j_X12_copyAll_39 v0 v1 v2 hz1) (0 : Int32) h ?_ H
  · intro hz1 H
    exact okj_X12_copyAll_39 v0 v1 v2 hz1  H
/-! X12_image -/
def m_X12_image (v0 : Nat) (v1 : Int32) (h : Hp) : Option (Int32 × Hp) :=
  (pfI h v0 12 0 (0 : Int32)).bind fun hh1 => (m_X12_in v1 (0 : Int32) (2 : Int32) hh1).bind fun x1 => if ¬ x1 = 0 then ((rc hh1 v0 12 (m_X12_copyAll v0 (0 : Int32) (v1 + (1 : Int32)) hh1)).bind fun x2 => (gfR x2 v0 12 36).bind fun x3 => (asZ x2 x3 v1 (1 : Int32)).bind fun hh2 => some ((1 : Int32), hh2)) else some ((0 : Int32), hh1)
set_option maxRecDepth 20000 in
theorem ok_X12_image {r : (Int32 × Hp)} {v0 : Nat} {v1 : Int32} {h : Hp} (H : m_X12_image v0 v1 h = some r) : Ev M_X12_image [aA v0, aI v1] h (some (aI r.1), r.2) := by
  show Go M_X12_image (some (aI r.1), r.2) 0 [some (aA v0), some (aI v1)] [] h
  unfold m_X12_image at H
  refine go_aloadn dX12_image_0 rfl ?_
  refine go_iconst (v := (0 : Int32)) dX12_image_1 rfl ?_
  refine gm_putI fd_X12_60 (Or.inl rfl) dX12_image_2 H (fun hh1 H => ?_)
  refine go_iloadn dX12_image_5 rfl ?_
  refine go_iconst (v := (0 : Int32)) dX12_image_6 rfl ?_
  refine go_iconst (v := (2 : Int32)) dX12_image_7 rfl ?_
  obtain ⟨x1, ex1, H⟩ := bind_some H
  refine go_callS (vs := [aI v1, aI (0 : Int32), aI (2 : Int32)]) (stk := []) (o1 := (some (aI x1), hh1)) mk_X12_in ss_X12_image_72 dX12_image_8 rfl rfl (Nat.le_of_ble_eq_true rfl) (Nat.le_of_ble_eq_true rfl) (ok_X12_in ex1) (show Go M_X12_image (some (aI r.1), r.2) 11 [some (aA v0), some (aI v1)] [aI x1] hh1 from ?_)
  refine go_if_ne (tgt := 16) dX12_image_11 (by decide) (fun c2 => ?_) (fun c2 => ?_)
  · replace H := (gm_ite H).1 c2
    refine go_aloadn dX12_image_16 rfl ?_
    refine go_iconst (v := (0 : Int32)) dX12_image_17 rfl ?_
    refine go_iloadn dX12_image_18 rfl ?_
    refine go_iconst (v := (1 : Int32)) dX12_image_19 rfl ?_
    refine go_iadd dX12_image_20 ?_
    obtain ⟨c3, x2, ex2, H⟩ := gm_rc H
    refine go_callV (vs := [aI (0 : Int32), aI (v1 + (1 : Int32))]) (stk := []) (o1 := (none, x2)) mk_X12_copyAll sv_X12_image_483 cl_X12 rfl dX12_image_21 c3 rfl rfl (Nat.le_of_ble_eq_true rfl) (Nat.le_of_ble_eq_true rfl) (ok_X12_copyAll ex2) (show Go M_X12_image (some (aI r.1), r.2) 24 [some (aA v0), some (aI v1)] [] x2 from ?_)
    refine go_aloadn dX12_image_24 rfl ?_
    refine gm_getR fd_X12_56 dX12_image_25 H (fun x3 H => ?_)
    refine go_iloadn dX12_image_28 rfl ?_
    refine go_iconst (v := (1 : Int32)) dX12_image_29 rfl ?_
    refine gm_zast dX12_image_30 H (fun hh2 H => ?_)
    refine go_iconst (v := (1 : Int32)) dX12_image_31 rfl ?_
    obtain rfl := Option.some.inj H
    exact go_ireturn (x := (1 : Int32)) dX12_image_32 (tyI_bool rfl (by decide))
  · replace H := (gm_ite H).2 c2
    refine go_iconst (v := (0 : Int32)) dX12_image_14 rfl ?_
    obtain rfl := Option.some.inj H
    exact go_ireturn (x := (0 : Int32)) dX12_image_15 (tyI_bool rfl (by decide))
/-! X11_again -/
def m_X11_again (v0 : Nat) (v1 : Int32) (h : Hp) : Option (Int32 × Hp) :=
  if v1 < 0 then (some ((0 : Int32), h)) else (gfR h v0 11 1).bind fun x1 => (alen h x1 27).bind fun x2 => if v1 < x2 then ((gfR h v0 11 1).bind fun x3 => (alR h x3 27 v1).bind fun x4 => (nz x4).bind fun _ => if ¬ x4 = 0 then ((gfR h v0 11 0).bind fun x5 => (rc h x5 9 (m_X9_copyFrom x5 x4 h)).bind fun x6 => some ((1 : Int32), x6)) else some ((0 : Int32), h)) else some ((0 : Int32), h)
set_option maxRecDepth 20000 in
theorem ok_X11_again {r : (Int32 × Hp)} {v0 : Nat} {v1 : Int32} {h : Hp} (H : m_X11_again v0 v1 h = some r) : Ev M_X11_again [aA v0, aI v1] h (some (aI r.1), r.2) := by
  show Go M_X11_again (some (aI r.1), r.2) 0 [some (aA v0), some (aI v1), none] [] h
  unfold m_X11_again at H
  refine go_iloadn dX11_again_0 rfl ?_
  refine go_if_lt (tgt := 13) dX11_again_1 (by decide) (fun c1 => ?_) (fun c1 => ?_)
  · replace H := (gm_ite H).1 c1
    refine go_iconst (v := (0 : Int32)) dX11_again_13 rfl ?_
    obtain rfl := Option.some.inj H
    exact go_ireturn (x := (0 : Int32)) dX11_again_14 (tyI_bool rfl (by decide))
  · replace H := (gm_ite H).2 c1
    refine go_iloadn dX11_again_4 rfl ?_
    refine go_aloadn dX11_again_5 rfl ?_
    refine gm_getR fd_X11_16 dX11_again_6 H (fun x1 H => ?_)
    refine gm_alen (by decide) dX11_again_9 H (fun x2 H => ?_)
    refine go_icmp_lt (tgt := 15) dX11_again_10 (by decide) (fun c2 => ?_) (fun c2 => ?_)
    · replace H := (gm_ite H).1 c2
      refine go_aloadn dX11_again_15 rfl ?_
      refine gm_getR fd_X11_16 dX11_again_16 H (fun x3 H => ?_)
      refine go_iloadn dX11_again_19 rfl ?_
      refine gm_aald (by decide) dX11_again_20 H (fun x4 H => ?_)
      refine go_astoren (loc2 := [some (aA v0), some (aI v1), some (aA x4)]) dX11_again_21 rfl (by decide) rfl ?_
      refine go_aloadn dX11_again_22 rfl ?_
      obtain ⟨c4, H⟩ := gm_nz H
      refine go_ifnonnull (tgt := 28) dX11_again_23 (by decide) c4 (fun c3 => ?_) (fun c3 => ?_)
      · replace H := (gm_ite H).1 c3
        refine go_aloadn dX11_again_28 rfl ?_
        refine gm_getR fd_X11_10 dX11_again_29 H (fun x5 H => ?_)
        refine go_aloadn dX11_again_32 rfl ?_
        obtain ⟨c5, x6, ex6, H⟩ := gm_rc H
        refine go_callV (vs := [aA x4]) (stk := []) (o1 := (none, x6)) mk_X9_copyFrom sv_X11_again_347 cl_X9 rfl dX11_again_33 c5 rfl rfl (Nat.le_of_ble_eq_true rfl) (Nat.le_of_ble_eq_true rfl) (ok_X9_copyFrom ex6) (show Go M_X11_again (some (aI r.1), r.2) 36 [some (aA v0), some (aI v1), some (aA x4)] [] x6 from ?_)
        refine go_iconst (v := (1 : Int32)) dX11_again_36 rfl ?_
        obtain rfl := Option.some.inj H
        exact go_ireturn (x := (1 : Int32)) dX11_again_37 (tyI_bool rfl (by decide))
      · replace H := (gm_ite H).2 (fun q => q c3)
        refine go_iconst (v := (0 : Int32)) dX11_again_26 rfl ?_
        obtain rfl := Option.some.inj H
        exact go_ireturn (x := (0 : Int32)) dX11_again_27 (tyI_bool rfl (by decide))
    · replace H := (gm_ite H).2 c2
      refine go_iconst (v := (0 : Int32)) dX11_again_13 rfl ?_
      obtain rfl := Option.some.inj H
      exact go_ireturn (x := (0 : Int32)) dX11_again_14 (tyI_bool rfl (by decide))
/-! X12_again -/
def m_X12_again (v0 : Nat) (v1 : Int32) (h : Hp) : Option (Int32 × Hp) :=
  (pfI h v0 12 0 (0 : Int32)).bind fun hh1 => (m_X12_in v1 (0 : Int32) (2 : Int32) hh1).bind fun x1 => if x1 = 0 then (some ((0 : Int32), hh1)) else (gfR hh1 v0 12 36).bind fun x2 => (alZ hh1 x2 v1).bind fun x3 => if ¬ x3 = 0 then ((rc hh1 v0 12 (m_X12_copyAll v0 (v1 + (1 : Int32)) (0 : Int32) hh1)).bind fun x4 => some ((1 : Int32), x4)) else some ((0 : Int32), hh1)
set_option maxRecDepth 20000 in
theorem ok_X12_again {r : (Int32 × Hp)} {v0 : Nat} {v1 : Int32} {h : Hp} (H : m_X12_again v0 v1 h = some r) : Ev M_X12_again [aA v0, aI v1] h (some (aI r.1), r.2) := by
  show Go M_X12_again (some (aI r.1), r.2) 0 [some (aA v0), some (aI v1)] [] h
  unfold m_X12_again at H
  refine go_aloadn dX12_again_0 rfl ?_
  refine go_iconst (v := (0 : Int32)) dX12_again_1 rfl ?_
  refine gm_putI fd_X12_60 (Or.inl rfl) dX12_again_2 H (fun hh1 H => ?_)
  refine go_iloadn dX12_again_5 rfl ?_
  refine go_iconst (v := (0 : Int32)) dX12_again_6 rfl ?_
  refine go_iconst (v := (2 : Int32)) dX12_again_7 rfl ?_
  obtain ⟨x1, ex1, H⟩ := bind_some H
  refine go_callS (vs := [aI v1, aI (0 : Int32), aI (2 : Int32)]) (stk := []) (o1 := (some (aI x1), hh1)) mk_X12_in ss_X12_again_72 dX12_again_8 rfl rfl (Nat.le_of_ble_eq_true rfl) (Nat.le_of_ble_eq_true rfl) (ok_X12_in ex1) (show Go M_X12_again (some (aI r.1), r.2) 11 [some (aA v0), some (aI v1)] [aI x1] hh1 from ?_)
  refine go_if_eq (tgt := 23) dX12_again_11 (by decide) (fun c2 => ?_) (fun c2 => ?_)
  · replace H := (gm_ite H).1 c2
    refine go_iconst (v := (0 : Int32)) dX12_again_23 rfl ?_
    obtain rfl := Option.some.inj H
    exact go_ireturn (x := (0 : Int32)) dX12_again_24 (tyI_bool rfl (by decide))
  · replace H := (gm_ite H).2 c2
    refine go_aloadn dX12_again_14 rfl ?_
    refine gm_getR fd_X12_56 dX12_again_15 H (fun x2 H => ?_)
    refine go_iloadn dX12_again_18 rfl ?_
    refine gm_zald dX12_again_19 H (fun x3 H => ?_)
    refine go_if_ne (tgt := 25) dX12_again_20 (by decide) (fun c3 => ?_) (fun c3 => ?_)
    · replace H := (gm_ite H).1 c3
      refine go_aloadn dX12_again_25 rfl ?_
      refine go_iloadn dX12_again_26 rfl ?_
      refine go_iconst (v := (1 : Int32)) dX12_again_27 rfl ?_
      refine go_iadd dX12_again_28 ?_
      refine go_iconst (v := (0 : Int32)) dX12_again_29 rfl ?_
      obtain ⟨c4, x4, ex4, H⟩ := gm_rc H
      refine go_callV (vs := [aI (v1 + (1 : Int32)), aI (0 : Int32)]) (stk := []) (o1 := (none, x4)) mk_X12_copyAll sv_X12_again_483 cl_X12 rfl dX12_again_30 c4 rfl rfl (Nat.le_of_ble_eq_true rfl) (Nat.le_of_ble_eq_true rfl) (ok_X12_copyAll ex4) (show Go M_X12_again (some (aI r.1), r.2) 33 [some (aA v0), some (aI v1)] [] x4 from ?_)
      refine go_iconst (v := (1 : Int32)) dX12_again_33 rfl ?_
      obtain rfl := Option.some.inj H
      exact go_ireturn (x := (1 : Int32)) dX12_again_34 (tyI_bool rfl (by decide))
    · replace H := (gm_ite H).2 c3
      refine go_iconst (v := (0 : Int32)) dX12_again_23 rfl ?_
      obtain rfl := Option.some.inj H
      exact go_ireturn (x := (0 : Int32)) dX12_again_24 (tyI_bool rfl (by decide))
