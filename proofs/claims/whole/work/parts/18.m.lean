/-! X11_word -/
def m_X11_word (v0 : Nat) (v1 : Int32) (v2 : Int32) (v3 : Int32) (h : Hp) : Option Int32 :=
  (gfR h v0 11 0).bind fun x1 => (rc h x1 9 (m_X9_archiveAt x1 v1 h)).bind fun x2 => (nz x2).bind fun _ => if x2 = 0 then (some (-1 : Int32)) else (rc h x2 1 (m_X0_hasWord x2 v2 h)).bind fun x3 => if ¬ x3 = 0 then (if v3 = (0 : Int32) then ((rc h x2 1 (m_X0_wordAt x2 v2 h)).bind fun x4 => (m_X5_wordNumber x4 h).bind fun x5 => some x5) else if v3 = (1 : Int32) then ((rc h x2 1 (m_X0_slotsOfWord x2 v2 h)).bind fun x6 => (m_J13_bitCount_95d88 x6 h).bind fun x7 => some x7) else if v3 = (2 : Int32) then ((gfR h v0 11 3).bind fun x8 => (rc h x8 3 (m_X2_documentsOfWord x8 x2 v2 h)).bind fun x9 => some x9) else if v3 = (3 : Int32) then ((gfR h v0 11 3).bind fun x10 => (rc h x10 3 (m_X2_firstDateOfWord x10 x2 v2 h)).bind fun x11 => some x11) else if v3 = (4 : Int32) then ((gfR h v0 11 3).bind fun x12 => (rc h x12 3 (m_X2_spread x12 x2 v2 h)).bind fun x13 => some x13) else some (-1 : Int32)) else some (-1 : Int32)
set_option maxRecDepth 20000 in
theorem ok_X11_word {r : Int32} {v0 : Nat} {v1 : Int32} {v2 : Int32} {v3 : Int32} {h : Hp} (H : m_X11_word v0 v1 v2 v3 h = some r) : Ev M_X11_word [aA v0, aI v1, aI v2, aI v3] h (some (aI r), h) := by
  show Go M_X11_word (some (aI r), h) 0 [some (aA v0), some (aI v1), some (aI v2), some (aI v3), none] [] h
  unfold m_X11_word at H
  refine go_aloadn dX11_word_0 rfl ?_
  refine gm_getR fd_X11_10 dX11_word_1 H (fun x1 H => ?_)
  refine go_iloadn dX11_word_4 rfl ?_
  obtain ⟨c1, x2, ex2, H⟩ := gm_rc H
  refine go_callV (vs := [aI v1]) (stk := []) (o1 := (some (aA x2), h)) mk_X9_archiveAt sv_X11_word_86 cl_X9 rfl dX11_word_5 c1 rfl rfl (Nat.le_of_ble_eq_true rfl) (Nat.le_of_ble_eq_true rfl) (ok_X9_archiveAt ex2) (show Go M_X11_word (some (aI r), h) 8 [some (aA v0), some (aI v1), some (aI v2), some (aI v3), none] [aA x2] h from ?_)
  refine go_astore (loc2 := [some (aA v0), some (aI v1), some (aI v2), some (aI v3), some (aA x2)]) dX11_word_8 (by decide) rfl ?_
  refine go_aload dX11_word_10 rfl ?_
  obtain ⟨c3, H⟩ := gm_nz H
  refine go_ifnull (tgt := 24) dX11_word_12 (by decide) c3 (fun c2 => ?_) (fun c2 => ?_)
  · replace H := (gm_ite H).1 c2
    refine go_iconst (v := (-1 : Int32)) dX11_word_24 rfl ?_
    obtain rfl := Option.some.inj H
    exact go_ireturn dX11_word_25 (tyI_int rfl)
  · replace H := (gm_ite H).2 c2
    refine go_aload dX11_word_15 rfl ?_
    refine go_iloadn dX11_word_17 rfl ?_
    obtain ⟨c4, x3, ex3, H⟩ := gm_rc H
    refine go_callV (vs := [aI v2]) (stk := []) (o1 := (some (aI x3), h)) mk_X0_hasWord sv_X11_word_193 cl_X0 rfl dX11_word_18 c4 rfl rfl (Nat.le_of_ble_eq_true rfl) (Nat.le_of_ble_eq_true rfl) (ok_X0_hasWord ex3) (show Go M_X11_word (some (aI r), h) 21 [some (aA v0), some (aI v1), some (aI v2), some (aI v3), some (aA x2)] [aI x3] h from ?_)
    refine go_if_ne (tgt := 26) dX11_word_21 (by decide) (fun c5 => ?_) (fun c5 => ?_)
    · replace H := (gm_ite H).1 c5
      refine go_iloadn dX11_word_26 rfl ?_
      by_cases c6 : v3 = (0 : Int32)
      · replace H := (gm_ite H).1 c6
        refine go_eqI c6 ?_
        refine go_tableIn (tgt := 60) dX11_word_27 (by decide) (by decide) rfl (by decide) ?_
        refine go_aload dX11_word_60 rfl ?_
        refine go_iloadn dX11_word_62 rfl ?_
        obtain ⟨c7, x4, ex4, H⟩ := gm_rc H
        refine go_callV (vs := [aI v2]) (stk := []) (o1 := (some (aI x4), h)) mk_X0_wordAt sv_X11_word_196 cl_X0 rfl dX11_word_63 c7 rfl rfl (Nat.le_of_ble_eq_true rfl) (Nat.le_of_ble_eq_true rfl) (ok_X0_wordAt ex4) (show Go M_X11_word (some (aI r), h) 66 [some (aA v0), some (aI v1), some (aI v2), some (aI v3), some (aA x2)] [aI x4] h from ?_)
        obtain ⟨x5, ex5, H⟩ := bind_some H
        refine go_callS (vs := [aI x4]) (stk := []) (o1 := (some (aI x5), h)) mk_X5_wordNumber ss_X11_word_199 dX11_word_66 rfl rfl (Nat.le_of_ble_eq_true rfl) (Nat.le_of_ble_eq_true rfl) (ok_X5_wordNumber ex5) (show Go M_X11_word (some (aI r), h) 69 [some (aA v0), some (aI v1), some (aI v2), some (aI v3), some (aA x2)] [aI x5] h from ?_)
        obtain rfl := Option.some.inj H
        exact go_ireturn dX11_word_69 (tyI_int rfl)
      · replace H := (gm_ite H).2 c6
        by_cases c9 : v3 = (1 : Int32)
        · replace H := (gm_ite H).1 c9
          refine go_eqI c9 ?_
          refine go_tableIn (tgt := 70) dX11_word_27 (by decide) (by decide) rfl (by decide) ?_
          refine go_aload dX11_word_70 rfl ?_
          refine go_iloadn dX11_word_72 rfl ?_
          obtain ⟨c10, x6, ex6, H⟩ := gm_rc H
          refine go_callV (vs := [aI v2]) (stk := []) (o1 := (some (aL x6), h)) mk_X0_slotsOfWord sv_X11_word_202 cl_X0 rfl dX11_word_73 c10 rfl rfl (Nat.le_of_ble_eq_true rfl) (Nat.le_of_ble_eq_true rfl) (ok_X0_slotsOfWord ex6) (show Go M_X11_word (some (aI r), h) 76 [some (aA v0), some (aI v1), some (aI v2), some (aI v3), some (aA x2)] [aL x6] h from ?_)
          obtain ⟨x7, ex7, H⟩ := bind_some H
          refine go_callS (vs := [aL x6]) (stk := []) (o1 := (some (aI x7), h)) mk_J13_bitCount_95d88 ss_X11_word_206 dX11_word_76 rfl rfl (Nat.le_of_ble_eq_true rfl) (Nat.le_of_ble_eq_true rfl) (ok_J13_bitCount_95d88 ex7) (show Go M_X11_word (some (aI r), h) 79 [some (aA v0), some (aI v1), some (aI v2), some (aI v3), some (aA x2)] [aI x7] h from ?_)
          obtain rfl := Option.some.inj H
          exact go_ireturn dX11_word_79 (tyI_int rfl)
        · replace H := (gm_ite H).2 c9
          by_cases c12 : v3 = (2 : Int32)
          · replace H := (gm_ite H).1 c12
            refine go_eqI c12 ?_
            refine go_tableIn (tgt := 80) dX11_word_27 (by decide) (by decide) rfl (by decide) ?_
            refine go_aloadn dX11_word_80 rfl ?_
            refine gm_getR fd_X11_30 dX11_word_81 H (fun x8 H => ?_)
            refine go_aload dX11_word_84 rfl ?_
            refine go_iloadn dX11_word_86 rfl ?_
            obtain ⟨c13, x9, ex9, H⟩ := gm_rc H
            refine go_callV (vs := [aA x2, aI v2]) (stk := []) (o1 := (some (aI x9), h)) mk_X2_documentsOfWord sv_X11_word_211 cl_X2 rfl dX11_word_87 c13 rfl rfl (Nat.le_of_ble_eq_true rfl) (Nat.le_of_ble_eq_true rfl) (ok_X2_documentsOfWord ex9) (show Go M_X11_word (some (aI r), h) 90 [some (aA v0), some (aI v1), some (aI v2), some (aI v3), some (aA x2)] [aI x9] h from ?_)
            obtain rfl := Option.some.inj H
            exact go_ireturn dX11_word_90 (tyI_int rfl)
          · replace H := (gm_ite H).2 c12
            by_cases c14 : v3 = (3 : Int32)
            · replace H := (gm_ite H).1 c14
              refine go_eqI c14 ?_
              refine go_tableIn (tgt := 91) dX11_word_27 (by decide) (by decide) rfl (by decide) ?_
              refine go_aloadn dX11_word_91 rfl ?_
              refine gm_getR fd_X11_30 dX11_word_92 H (fun x10 H => ?_)
              refine go_aload dX11_word_95 rfl ?_
              refine go_iloadn dX11_word_97 rfl ?_
              obtain ⟨c15, x11, ex11, H⟩ := gm_rc H
              refine go_callV (vs := [aA x2, aI v2]) (stk := []) (o1 := (some (aI x11), h)) mk_X2_firstDateOfWord sv_X11_word_214 cl_X2 rfl dX11_word_98 c15 rfl rfl (Nat.le_of_ble_eq_true rfl) (Nat.le_of_ble_eq_true rfl) (ok_X2_firstDateOfWord ex11) (show Go M_X11_word (some (aI r), h) 101 [some (aA v0), some (aI v1), some (aI v2), some (aI v3), some (aA x2)] [aI x11] h from ?_)
              obtain rfl := Option.some.inj H
              exact go_ireturn dX11_word_101 (tyI_int rfl)
            · replace H := (gm_ite H).2 c14
              by_cases c16 : v3 = (4 : Int32)
              · replace H := (gm_ite H).1 c16
                refine go_eqI c16 ?_
                refine go_tableIn (tgt := 102) dX11_word_27 (by decide) (by decide) rfl (by decide) ?_
                refine go_aloadn dX11_word_102 rfl ?_
                refine gm_getR fd_X11_30 dX11_word_103 H (fun x12 H => ?_)
                refine go_aload dX11_word_106 rfl ?_
                refine go_iloadn dX11_word_108 rfl ?_
                obtain ⟨c17, x13, ex13, H⟩ := gm_rc H
                refine go_callV (vs := [aA x2, aI v2]) (stk := []) (o1 := (some (aI x13), h)) mk_X2_spread sv_X11_word_217 cl_X2 rfl dX11_word_109 c17 rfl rfl (Nat.le_of_ble_eq_true rfl) (Nat.le_of_ble_eq_true rfl) (ok_X2_spread ex13) (show Go M_X11_word (some (aI r), h) 112 [some (aA v0), some (aI v1), some (aI v2), some (aI v3), some (aA x2)] [aI x13] h from ?_)
                obtain rfl := Option.some.inj H
                exact go_ireturn dX11_word_112 (tyI_int rfl)
              · replace H := (gm_ite H).2 c16
                refine go_tableOut (tgt := 113) dX11_word_27 (sw_out (fun i h1 h2 e => ?_)) (by decide) ?_
                · have h3 : i = 0 ∨ i = 1 ∨ i = 2 ∨ i = 3 ∨ i = 4 := by omega
                  rcases h3 with rfl | rfl | rfl | rfl | rfl
                  · exact sw_ne c6 (by decide) e
                  · exact sw_ne c9 (by decide) e
                  · exact sw_ne c12 (by decide) e
                  · exact sw_ne c14 (by decide) e
                  · exact sw_ne c16 (by decide) e
                · skip
                  refine go_iconst (v := (-1 : Int32)) dX11_word_113 rfl ?_
                  obtain rfl := Option.some.inj H
                  exact go_ireturn dX11_word_114 (tyI_int rfl)
    · replace H := (gm_ite H).2 c5
      refine go_iconst (v := (-1 : Int32)) dX11_word_24 rfl ?_
      obtain rfl := Option.some.inj H
      exact go_ireturn dX11_word_25 (tyI_int rfl)
/-! X12_timesIn -/
def j_X12_timesIn_36 (v0 : Nat) (v1 : Int32) (v2 : Int32) (v3 : Int32) (v5 : Int32) (s0 : Int32) (s1 : Int32) (h : Hp) (k : Int32 → Int32 → Option Int32) : Option Int32 :=
  k (s0 + s1) (v5 + (1 : Int32))
set_option maxRecDepth 20000 in
theorem okj_X12_timesIn_36 {r : Int32} (v0 : Nat) (v1 : Int32) (v2 : Int32) (v3 : Int32) (v5 : Int32) (s0 : Int32) (s1 : Int32) (h : Hp) (k : Int32 → Int32 → Option Int32) (Hk : ∀ (v4q : Int32) (v5q : Int32), k v4q v5q = some r → Go M_X12_timesIn (some (aI r), h) 6 [some (aA v0), some (aI v1), some (aI v2), some (aI v3), some (aI v4q), some (aI v5q)] [] h) (H : j_X12_timesIn_36 v0 v1 v2 v3 v5 s0 s1 h k = some r) : Go M_X12_timesIn (some (aI r), h) 36 [some (aA v0), some (aI v1), some (aI v2), some (aI v3), none, some (aI v5)] [aI s1, aI s0] h := by
  unfold j_X12_timesIn_36 at H
  refine go_iadd dX12_timesIn_36 ?_
  refine go_istore (loc2 := [some (aA v0), some (aI v1), some (aI v2), some (aI v3), some (aI (s0 + s1)), some (aI v5)]) dX12_timesIn_37 (by decide) rfl ?_
  refine go_iinc (v := (v5 + (1 : Int32))) (loc2 := [some (aA v0), some (aI v1), some (aI v2), some (aI v3), some (aI (s0 + s1)), some (aI (v5 + (1 : Int32)))]) dX12_timesIn_39 rfl rfl (by decide) rfl ?_
  refine go_goto (tgt := 6) dX12_timesIn_42 (by decide) ?_
  exact Hk (s0 + s1) (v5 + (1 : Int32)) H
def b_X12_timesIn_6 (v0 : Nat) (v1 : Int32) (v2 : Int32) (v3 : Int32) (h : Hp) (k : Int32 → Int32 → Option Int32) (v4 : Int32) (v5 : Int32) : Option Int32 :=
  (rc h v0 12 (m_X12_longOf v0 v1 v2 h)).bind fun x1 => if x1 ≤ v5 then (some v4) else (rc h v0 12 (m_X12_wordAt v0 v1 v2 v5 h)).bind fun x2 => j_X12_timesIn_36 v0 v1 v2 v3 v5 v4 (if ¬ x2 = v3 then (0 : Int32) else (1 : Int32)) h k
set_option maxRecDepth 20000 in
theorem okb_X12_timesIn_6 {r : Int32} (v0 : Nat) (v1 : Int32) (v2 : Int32) (v3 : Int32) (h : Hp) (k : Int32 → Int32 → Option Int32) (v4 : Int32) (v5 : Int32) (Hk : ∀ (v4q : Int32) (v5q : Int32), k v4q v5q = some r → Go M_X12_timesIn (some (aI r), h) 6 [some (aA v0), some (aI v1), some (aI v2), some (aI v3), some (aI v4q), some (aI v5q)] [] h) (H : b_X12_timesIn_6 v0 v1 v2 v3 h k v4 v5 = some r) : Go M_X12_timesIn (some (aI r), h) 6 [some (aA v0), some (aI v1), some (aI v2), some (aI v3), some (aI v4), some (aI v5)] [] h := by
  unfold b_X12_timesIn_6 at H
  refine go_iload dX12_timesIn_6 rfl ?_
  refine go_aloadn dX12_timesIn_8 rfl ?_
  refine go_iloadn dX12_timesIn_9 rfl ?_
  refine go_iloadn dX12_timesIn_10 rfl ?_
  obtain ⟨c1, x1, ex1, H⟩ := gm_rc H
  refine go_callV (vs := [aI v1, aI v2]) (stk := [aI v5]) (o1 := (some (aI x1), h)) mk_X12_longOf sv_X12_timesIn_269 cl_X12 rfl dX12_timesIn_11 c1 rfl rfl (Nat.le_of_ble_eq_true rfl) (Nat.le_of_ble_eq_true rfl) (ok_X12_longOf ex1) (show Go M_X12_timesIn (some (aI r), h) 14 [some (aA v0), some (aI v1), some (aI v2), some (aI v3), some (aI v4), some (aI v5)] [aI x1, aI v5] h from ?_)
  refine go_icmp_ge (tgt := 45) dX12_timesIn_14 (by decide) (fun c2 => ?_) (fun c2 => ?_)
  · replace H := (gm_ite H).1 c2
    refine go_iload dX12_timesIn_45 rfl ?_
    obtain rfl := Option.some.inj H
    exact go_ireturn dX12_timesIn_47 (tyI_int rfl)
  · replace H := (gm_ite H).2 c2
    refine go_iload dX12_timesIn_17 rfl ?_
    refine go_aloadn dX12_timesIn_19 rfl ?_
    refine go_iloadn dX12_timesIn_20 rfl ?_
    refine go_iloadn dX12_timesIn_21 rfl ?_
    refine go_iload dX12_timesIn_22 rfl ?_
    obtain ⟨c3, x2, ex2, H⟩ := gm_rc H
    refine go_callV (vs := [aI v1, aI v2, aI v5]) (stk := [aI v4]) (o1 := (some (aI x2), h)) mk_X12_wordAt sv_X12_timesIn_275 cl_X12 rfl dX12_timesIn_24 c3 rfl rfl (Nat.le_of_ble_eq_true rfl) (Nat.le_of_ble_eq_true rfl) (ok_X12_wordAt ex2) (show Go M_X12_timesIn (some (aI r), h) 27 [some (aA v0), some (aI v1), some (aI v2), some (aI v3), some (aI v4), some (aI v5)] [aI x2, aI v4] h from ?_)
    refine go_iloadn dX12_timesIn_27 rfl ?_
    refine go_icmp_ne (tgt := 35) dX12_timesIn_28 (by decide) (fun c4 => ?_) (fun c4 => ?_)
    · rw [if_pos c4] at H
      refine go_iconst (v := (0 : Int32)) dX12_timesIn_35 rfl ?_
      refine go_mask [true, true, true, true, false, true] (loc' := [some (aA v0), some (aI v1), some (aI v2), some (aI v3), none, some (aI v5)]) rfl ?_
      exact okj_X12_timesIn_36 v0 v1 v2 v3 v5 v4 (0 : Int32) h k Hk H
    · rw [if_neg c4] at H
      refine go_iconst (v := (1 : Int32)) dX12_timesIn_31 rfl ?_
      refine go_goto (tgt := 36) dX12_timesIn_32 (by decide) ?_
      refine go_mask [true, true, true, true, false, true] (loc' := [some (aA v0), some (aI v1), some (aI v2), some (aI v3), none, some (aI v5)]) rfl ?_
      exact okj_X12_timesIn_36 v0 v1 v2 v3 v5 v4 (1 : Int32) h k Hk H
def l_X12_timesIn_6 (v0 : Nat) (v1 : Int32) (v2 : Int32) (v3 : Int32) (h : Hp) (v4 : Int32) (v5 : Int32) : Option Int32 := loopK FUEL (fun (k : Int32 × Int32 → Option Int32) (s : Int32 × Int32) => b_X12_timesIn_6 v0 v1 v2 v3 h (fun v4q v5q => k (v4q, v5q)) s.1 s.2) (v4, v5)
theorem okl_X12_timesIn_6 {r : Int32} (v0 : Nat) (v1 : Int32) (v2 : Int32) (v3 : Int32) (h : Hp) (v4 : Int32) (v5 : Int32) (H : l_X12_timesIn_6 v0 v1 v2 v3 h v4 v5 = some r) : Go M_X12_timesIn (some (aI r), h) 6 [some (aA v0), some (aI v1), some (aI v2), some (aI v3), some (aI v4), some (aI v5)] [] h := by
  unfold l_X12_timesIn_6 at H
  exact go_loop (σ := Int32 × Int32) (body := (fun (k : Int32 × Int32 → Option Int32) (s : Int32 × Int32) => b_X12_timesIn_6 v0 v1 v2 v3 h (fun v4q v5q => k (v4q, v5q)) s.1 s.2)) (fun s => [some (aA v0), some (aI v1), some (aI v2), some (aI v3), some (aI s.1), some (aI s.2)]) (fun s => h) (fun k s Hk H => okb_X12_timesIn_6 v0 v1 v2 v3 h (fun v4q v5q => k (v4q, v5q)) s.1 s.2  (fun v4q v5q H => Hk (v4q, v5q) H) H) FUEL (v4, v5) H
def m_X12_timesIn (v0 : Nat) (v1 : Int32) (v2 : Int32) (v3 : Int32) (h : Hp) : Option Int32 :=
  l_X12_timesIn_6 v0 v1 v2 v3 h (0 : Int32) (0 : Int32)
set_option maxRecDepth 20000 in
theorem ok_X12_timesIn {r : Int32} {v0 : Nat} {v1 : Int32} {v2 : Int32} {v3 : Int32} {h : Hp} (H : m_X12_timesIn v0 v1 v2 v3 h = some r) : Ev M_X12_timesIn [aA v0, aI v1, aI v2, aI v3] h (some (aI r), h) := by
  show Go M_X12_timesIn (some (aI r), h) 0 [some (aA v0), some (aI v1), some (aI v2), some (aI v3), none, none] [] h
  unfold m_X12_timesIn at H
  refine go_iconst (v := (0 : Int32)) dX12_timesIn_0 rfl ?_
  refine go_istore (loc2 := [some (aA v0), some (aI v1), some (aI v2), some (aI v3), some (aI (0 : Int32)), none]) dX12_timesIn_1 (by decide) rfl ?_
  refine go_iconst (v := (0 : Int32)) dX12_timesIn_3 rfl ?_
  refine go_istore (loc2 := [some (aA v0), some (aI v1), some (aI v2), some (aI v3), some (aI (0 : Int32)), some (aI (0 : Int32))]) dX12_timesIn_4 (by decide) rfl ?_
  exact okl_X12_timesIn_6 v0 v1 v2 v3 h (0 : Int32) (0 : Int32) H
/-! X12_ofWord -/
def j_X12_ofWord_119 (v0 : Nat) (v1 : Int32) (v2 : Int32) (v3 : Int32) (v4 : Int32) (v6 : Int32) (v7 : Int32) (v10 : Int32) (s0 : Int32) (h : Hp) (K136 : Int32 → Int32 → Int32 → Int32 → Option Int32) (k : Int32 → Int32 → Int32 → Int32 → Int32 → Option Int32) : Option Int32 :=
  (m_X12_greater v6 v10 h).bind fun x1 => k v3 v4 s0 x1 (v7 + (1 : Int32))
set_option maxRecDepth 20000 in
theorem okj_X12_ofWord_119 {r : Int32} (v0 : Nat) (v1 : Int32) (v2 : Int32) (v3 : Int32) (v4 : Int32) (v6 : Int32) (v7 : Int32) (v10 : Int32) (s0 : Int32) (h : Hp) (K136 : Int32 → Int32 → Int32 → Int32 → Option Int32) (k : Int32 → Int32 → Int32 → Int32 → Int32 → Option Int32) (HK136 : ∀ (v3q : Int32) (v4q : Int32) (v5q : Int32) (v6q : Int32) , K136 v3q v4q v5q v6q = some r → Go M_X12_ofWord (some (aI r), h) 136 [none, some (aI v1), some (aI v2), some (aI v3q), some (aI v4q), some (aI v5q), some (aI v6q), none, none, none, none] [] h) (Hk : ∀ (v3q : Int32) (v4q : Int32) (v5q : Int32) (v6q : Int32) (v7q : Int32), k v3q v4q v5q v6q v7q = some r → Go M_X12_ofWord (some (aI r), h) 16 [some (aA v0), some (aI v1), some (aI v2), some (aI v3q), some (aI v4q), some (aI v5q), some (aI v6q), some (aI v7q), none, none, none] [] h) (H : j_X12_ofWord_119 v0 v1 v2 v3 v4 v6 v7 v10 s0 h K136 k = some r) : Go M_X12_ofWord (some (aI r), h) 119 [some (aA v0), some (aI v1), some (aI v2), some (aI v3), some (aI v4), none, some (aI v6), some (aI v7), none, none, some (aI v10)] [aI s0] h := by
  unfold j_X12_ofWord_119 at H
  refine go_istore (loc2 := [some (aA v0), some (aI v1), some (aI v2), some (aI v3), some (aI v4), some (aI s0), some (aI v6), some (aI v7), none, none, some (aI v10)]) dX12_ofWord_119 (by decide) rfl ?_
  refine go_iload dX12_ofWord_121 rfl ?_
  refine go_iload dX12_ofWord_123 rfl ?_
  obtain ⟨x1, ex1, H⟩ := bind_some H
  refine go_callS (vs := [aI v6, aI v10]) (stk := []) (o1 := (some (aI x1), h)) mk_X12_greater ss_X12_ofWord_297 dX12_ofWord_125 rfl rfl (Nat.le_of_ble_eq_true rfl) (Nat.le_of_ble_eq_true rfl) (ok_X12_greater ex1) (show Go M_X12_ofWord (some (aI r), h) 128 [some (aA v0), some (aI v1), some (aI v2), some (aI v3), some (aI v4), some (aI s0), some (aI v6), some (aI v7), none, none, some (aI v10)] [aI x1] h from ?_)
  refine go_istore (loc2 := [some (aA v0), some (aI v1), some (aI v2), some (aI v3), some (aI v4), some (aI s0), some (aI x1), some (aI v7), none, none, some (aI v10)]) dX12_ofWord_128 (by decide) rfl ?_
  refine go_iinc (v := (v7 + (1 : Int32))) (loc2 := [some (aA v0), some (aI v1), some (aI v2), some (aI v3), some (aI v4), some (aI s0), some (aI x1), some (aI (v7 + (1 : Int32))), none, none, some (aI v10)]) dX12_ofWord_130 rfl rfl (by decide) rfl ?_
  refine go_goto (tgt := 16) dX12_ofWord_133 (by decide) ?_
  refine go_mask [true, true, true, true, true, true, true, true, false, false, false] (loc' := [some (aA v0), some (aI v1), some (aI v2), some (aI v3), some (aI v4), some (aI s0), some (aI x1), some (aI (v7 + (1 : Int32))), none, none, none]) rfl ?_
  exact Hk v3 v4 s0 x1 (v7 + (1 : Int32)) H
def j_X12_ofWord_91 (v0 : Nat) (v1 : Int32) (v2 : Int32) (v3 : Int32) (v5 : Int32) (v6 : Int32) (v7 : Int32) (v10 : Int32) (s0 : Int32) (s1 : Int32) (h : Hp) (K136 : Int32 → Int32 → Int32 → Int32 → Option Int32) (k : Int32 → Int32 → Int32 → Int32 → Int32 → Option Int32) : Option Int32 :=
  if v10 ≤ 0 then j_X12_ofWord_119 v0 v1 v2 v3 (s0 ||| s1) v6 v7 v10 v5 h K136 k else (gfR h v0 12 18).bind fun x1 => (alI h x1 ((6 : Int32) + v7)).bind fun x2 => (m_X12_lesser v5 x2 h).bind fun x3 => j_X12_ofWord_119 v0 v1 v2 v3 (s0 ||| s1) v6 v7 v10 x3 h K136 k
set_option maxRecDepth 20000 in
theorem okj_X12_ofWord_91 {r : Int32} (v0 : Nat) (v1 : Int32) (v2 : Int32) (v3 : Int32) (v5 : Int32) (v6 : Int32) (v7 : Int32) (v10 : Int32) (s0 : Int32) (s1 : Int32) (h : Hp) (K136 : Int32 → Int32 → Int32 → Int32 → Option Int32) (k : Int32 → Int32 → Int32 → Int32 → Int32 → Option Int32) (HK136 : ∀ (v3q : Int32) (v4q : Int32) (v5q : Int32) (v6q : Int32) , K136 v3q v4q v5q v6q = some r → Go M_X12_ofWord (some (aI r), h) 136 [none, some (aI v1), some (aI v2), some (aI v3q), some (aI v4q), some (aI v5q), some (aI v6q), none, none, none, none] [] h) (Hk : ∀ (v3q : Int32) (v4q : Int32) (v5q : Int32) (v6q : Int32) (v7q : Int32), k v3q v4q v5q v6q v7q = some r → Go M_X12_ofWord (some (aI r), h) 16 [some (aA v0), some (aI v1), some (aI v2), some (aI v3q), some (aI v4q), some (aI v5q), some (aI v6q), some (aI v7q), none, none, none] [] h) (H : j_X12_ofWord_91 v0 v1 v2 v3 v5 v6 v7 v10 s0 s1 h K136 k = some r) : Go M_X12_ofWord (some (aI r), h) 91 [some (aA v0), some (aI v1), some (aI v2), some (aI v3), none, some (aI v5), some (aI v6), some (aI v7), none, none, some (aI v10)] [aI s1, aI s0] h := by
  unfold j_X12_ofWord_91 at H
  refine go_ior dX12_ofWord_91 ?_
  refine go_istore (loc2 := [some (aA v0), some (aI v1), some (aI v2), some (aI v3), some (aI (s0 ||| s1)), some (aI v5), some (aI v6), some (aI v7), none, none, some (aI v10)]) dX12_ofWord_92 (by decide) rfl ?_
  refine go_iload dX12_ofWord_94 rfl ?_
  refine go_if_le (tgt := 117) dX12_ofWord_96 (by decide) (fun c1 => ?_) (fun c1 => ?_)
  · replace H := (gm_ite H).1 c1
    refine go_iload dX12_ofWord_117 rfl ?_
    refine go_mask [true, true, true, true, true, false, true, true, false, false, true] (loc' := [some (aA v0), some (aI v1), some (aI v2), some (aI v3), some (aI (s0 ||| s1)), none, some (aI v6), some (aI v7), none, none, some (aI v10)]) rfl ?_
    exact okj_X12_ofWord_119 v0 v1 v2 v3 (s0 ||| s1) v6 v7 v10 v5 h K136 k HK136 Hk H
  · replace H := (gm_ite H).2 c1
    refine go_iload dX12_ofWord_99 rfl ?_
    refine go_aloadn dX12_ofWord_101 rfl ?_
    refine gm_getR fd_X12_35 dX12_ofWord_102 H (fun x1 H => ?_)
    refine go_bipush (v := (6 : Int32)) dX12_ofWord_105 rfl ?_
    refine go_iload dX12_ofWord_107 rfl ?_
    refine go_iadd dX12_ofWord_109 ?_
    refine gm_iald dX12_ofWord_110 H (fun x2 H => ?_)
    obtain ⟨x3, ex3, H⟩ := bind_some H
    refine go_callS (vs := [aI v5, aI x2]) (stk := []) (o1 := (some (aI x3), h)) mk_X12_lesser ss_X12_ofWord_150 dX12_ofWord_111 rfl rfl (Nat.le_of_ble_eq_true rfl) (Nat.le_of_ble_eq_true rfl) (ok_X12_lesser ex3) (show Go M_X12_ofWord (some (aI r), h) 114 [some (aA v0), some (aI v1), some (aI v2), some (aI v3), some (aI (s0 ||| s1)), some (aI v5), some (aI v6), some (aI v7), none, none, some (aI v10)] [aI x3] h from ?_)
    refine go_goto (tgt := 119) dX12_ofWord_114 (by decide) ?_
    refine go_mask [true, true, true, true, true, false, true, true, false, false, true] (loc' := [some (aA v0), some (aI v1), some (aI v2), some (aI v3), some (aI (s0 ||| s1)), none, some (aI v6), some (aI v7), none, none, some (aI v10)]) rfl ?_
    exact okj_X12_ofWord_119 v0 v1 v2 v3 (s0 ||| s1) v6 v7 v10 x3 h K136 k HK136 Hk H
def j_X12_ofWord_74 (v0 : Nat) (v1 : Int32) (v2 : Int32) (v4 : Int32) (v5 : Int32) (v6 : Int32) (v7 : Int32) (v8 : Int32) (v10 : Int32) (s0 : Int32) (s1 : Int32) (h : Hp) (K136 : Int32 → Int32 → Int32 → Int32 → Option Int32) (k : Int32 → Int32 → Int32 → Int32 → Int32 → Option Int32) : Option Int32 :=
  if v10 ≤ 0 then j_X12_ofWord_91 v0 v1 v2 (s0 + s1) v5 v6 v7 v10 v4 (0 : Int32) h K136 k else j_X12_ofWord_91 v0 v1 v2 (s0 + s1) v5 v6 v7 v10 v4 (ishlF (1 : Int32) v8) h K136 k
set_option maxRecDepth 20000 in
theorem okj_X12_ofWord_74 {r : Int32} (v0 : Nat) (v1 : Int32) (v2 : Int32) (v4 : Int32) (v5 : Int32) (v6 : Int32) (v7 : Int32) (v8 : Int32) (v10 : Int32) (s0 : Int32) (s1 : Int32) (h : Hp) (K136 : Int32 → Int32 → Int32 → Int32 → Option Int32) (k : Int32 → Int32 → Int32 → Int32 → Int32 → Option Int32) (HK136 : ∀ (v3q : Int32) (v4q : Int32) (v5q : Int32) (v6q : Int32) , K136 v3q v4q v5q v6q = some r → Go M_X12_ofWord (some (aI r), h) 136 [none, some (aI v1), some (aI v2), some (aI v3q), some (aI v4q), some (aI v5q), some (aI v6q), none, none, none, none] [] h) (Hk : ∀ (v3q : Int32) (v4q : Int32) (v5q : Int32) (v6q : Int32) (v7q : Int32), k v3q v4q v5q v6q v7q = some r → Go M_X12_ofWord (some (aI r), h) 16 [some (aA v0), some (aI v1), some (aI v2), some (aI v3q), some (aI v4q), some (aI v5q), some (aI v6q), some (aI v7q), none, none, none] [] h) (H : j_X12_ofWord_74 v0 v1 v2 v4 v5 v6 v7 v8 v10 s0 s1 h K136 k = some r) : Go M_X12_ofWord (some (aI r), h) 74 [some (aA v0), some (aI v1), some (aI v2), none, some (aI v4), some (aI v5), some (aI v6), some (aI v7), some (aI v8), none, some (aI v10)] [aI s1, aI s0] h := by
  unfold j_X12_ofWord_74 at H
  refine go_iadd dX12_ofWord_74 ?_
  refine go_istoren (loc2 := [some (aA v0), some (aI v1), some (aI v2), some (aI (s0 + s1)), some (aI v4), some (aI v5), some (aI v6), some (aI v7), some (aI v8), none, some (aI v10)]) dX12_ofWord_75 rfl (by decide) rfl ?_
  refine go_iload dX12_ofWord_76 rfl ?_
  refine go_iload dX12_ofWord_78 rfl ?_
  refine go_if_le (tgt := 90) dX12_ofWord_80 (by decide) (fun c1 => ?_) (fun c1 => ?_)
  · replace H := (gm_ite H).1 c1
    refine go_iconst (v := (0 : Int32)) dX12_ofWord_90 rfl ?_
    refine go_mask [true, true, true, true, false, true, true, true, false, false, true] (loc' := [some (aA v0), some (aI v1), some (aI v2), some (aI (s0 + s1)), none, some (aI v5), some (aI v6), some (aI v7), none, none, some (aI v10)]) rfl ?_
    exact okj_X12_ofWord_91 v0 v1 v2 (s0 + s1) v5 v6 v7 v10 v4 (0 : Int32) h K136 k HK136 Hk H
  · replace H := (gm_ite H).2 c1
    refine go_iconst (v := (1 : Int32)) dX12_ofWord_83 rfl ?_
    refine go_iload dX12_ofWord_84 rfl ?_
    refine go_ishl dX12_ofWord_86 ?_
    refine go_goto (tgt := 91) dX12_ofWord_87 (by decide) ?_
    refine go_mask [true, true, true, true, false, true, true, true, false, false, true] (loc' := [some (aA v0), some (aI v1), some (aI v2), some (aI (s0 + s1)), none, some (aI v5), some (aI v6), some (aI v7), none, none, some (aI v10)]) rfl ?_
    exact okj_X12_ofWord_91 v0 v1 v2 (s0 + s1) v5 v6 v7 v10 v4 (ishlF (1 : Int32) v8) h K136 k HK136 Hk H
def j_X12_ofWord_61 (v0 : Nat) (v1 : Int32) (v2 : Int32) (v3 : Int32) (v4 : Int32) (v5 : Int32) (v6 : Int32) (v7 : Int32) (v8 : Int32) (s0 : Int32) (h : Hp) (K136 : Int32 → Int32 → Int32 → Int32 → Option Int32) (k : Int32 → Int32 → Int32 → Int32 → Int32 → Option Int32) : Option Int32 :=
  j_X12_ofWord_74 v0 v1 v2 v4 v5 v6 v7 v8 s0 v3 (if s0 ≤ 0 then (0 : Int32) else (1 : Int32)) h K136 k
set_option maxRecDepth 20000 in
theorem okj_X12_ofWord_61 {r : Int32} (v0 : Nat) (v1 : Int32) (v2 : Int32) (v3 : Int32) (v4 : Int32) (v5 : Int32) (v6 : Int32) (v7 : Int32) (v8 : Int32) (s0 : Int32) (h : Hp) (K136 : Int32 → Int32 → Int32 → Int32 → Option Int32) (k : Int32 → Int32 → Int32 → Int32 → Int32 → Option Int32) (HK136 : ∀ (v3q : Int32) (v4q : Int32) (v5q : Int32) (v6q : Int32) , K136 v3q v4q v5q v6q = some r → Go M_X12_ofWord (some (aI r), h) 136 [none, some (aI v1), some (aI v2), some (aI v3q), some (aI v4q), some (aI v5q), some (aI v6q), none, none, none, none] [] h) (Hk : ∀ (v3q : Int32) (v4q : Int32) (v5q : Int32) (v6q : Int32) (v7q : Int32), k v3q v4q v5q v6q v7q = some r → Go M_X12_ofWord (some (aI r), h) 16 [some (aA v0), some (aI v1), some (aI v2), some (aI v3q), some (aI v4q), some (aI v5q), some (aI v6q), some (aI v7q), none, none, none] [] h) (H : j_X12_ofWord_61 v0 v1 v2 v3 v4 v5 v6 v7 v8 s0 h K136 k = some r) : Go M_X12_ofWord (some (aI r), h) 61 [some (aA v0), some (aI v1), some (aI v2), some (aI v3), some (aI v4), some (aI v5), some (aI v6), some (aI v7), some (aI v8), none, none] [aI s0] h := by
  unfold j_X12_ofWord_61 at H
  refine go_istore (loc2 := [some (aA v0), some (aI v1), some (aI v2), some (aI v3), some (aI v4), some (aI v5), some (aI v6), some (aI v7), some (aI v8), none, some (aI s0)]) dX12_ofWord_61 (by decide) rfl ?_
  refine go_iloadn dX12_ofWord_63 rfl ?_
  refine go_iload dX12_ofWord_64 rfl ?_
  refine go_if_le (tgt := 73) dX12_ofWord_66 (by decide) (fun c1 => ?_) (fun c1 => ?_)
  · rw [if_pos c1] at H
    refine go_iconst (v := (0 : Int32)) dX12_ofWord_73 rfl ?_
    refine go_mask [true, true, true, false, true, true, true, true, true, false, true] (loc' := [some (aA v0), some (aI v1), some (aI v2), none, some (aI v4), some (aI v5), some (aI v6), some (aI v7), some (aI v8), none, some (aI s0)]) rfl ?_
    exact okj_X12_ofWord_74 v0 v1 v2 v4 v5 v6 v7 v8 s0 v3 (0 : Int32) h K136 k HK136 Hk H
  · rw [if_neg c1] at H
    refine go_iconst (v := (1 : Int32)) dX12_ofWord_69 rfl ?_
    refine go_goto (tgt := 74) dX12_ofWord_70 (by decide) ?_
    refine go_mask [true, true, true, false, true, true, true, true, true, false, true] (loc' := [some (aA v0), some (aI v1), some (aI v2), none, some (aI v4), some (aI v5), some (aI v6), some (aI v7), some (aI v8), none, some (aI s0)]) rfl ?_
    exact okj_X12_ofWord_74 v0 v1 v2 v4 v5 v6 v7 v8 s0 v3 (1 : Int32) h K136 k HK136 Hk H
def b_X12_ofWord_16 (v0 : Nat) (v1 : Int32) (v2 : Int32) (h : Hp) (K136 : Int32 → Int32 → Int32 → Int32 → Option Int32) (k : Int32 → Int32 → Int32 → Int32 → Int32 → Option Int32) (v3 : Int32) (v4 : Int32) (v5 : Int32) (v6 : Int32) (v7 : Int32) : Option Int32 :=
  if (40 : Int32) ≤ v7 then K136 v3 v4 v5 v6 else (rc h v0 12 (m_X12_isVersion v0 (v7 / (10 : Int32)) (iremF v7 (10 : Int32)) h)).bind fun x1 => if x1 = 0 then j_X12_ofWord_61 v0 v1 v2 v3 v4 v5 v6 v7 (v7 / (10 : Int32)) (0 : Int32) h K136 k else (rc h v0 12 (m_X12_timesIn v0 (v7 / (10 : Int32)) (iremF v7 (10 : Int32)) v1 h)).bind fun x2 => j_X12_ofWord_61 v0 v1 v2 v3 v4 v5 v6 v7 (v7 / (10 : Int32)) x2 h K136 k
set_option maxRecDepth 20000 in
theorem okb_X12_ofWord_16 {r : Int32} (v0 : Nat) (v1 : Int32) (v2 : Int32) (h : Hp) (K136 : Int32 → Int32 → Int32 → Int32 → Option Int32) (k : Int32 → Int32 → Int32 → Int32 → Int32 → Option Int32) (v3 : Int32) (v4 : Int32) (v5 : Int32) (v6 : Int32) (v7 : Int32) (HK136 : ∀ (v3q : Int32) (v4q : Int32) (v5q : Int32) (v6q : Int32) , K136 v3q v4q v5q v6q = some r → Go M_X12_ofWord (some (aI r), h) 136 [none, some (aI v1), some (aI v2), some (aI v3q), some (aI v4q), some (aI v5q), some (aI v6q), none, none, none, none] [] h) (Hk : ∀ (v3q : Int32) (v4q : Int32) (v5q : Int32) (v6q : Int32) (v7q : Int32), k v3q v4q v5q v6q v7q = some r → Go M_X12_ofWord (some (aI r), h) 16 [some (aA v0), some (aI v1), some (aI v2), some (aI v3q), some (aI v4q), some (aI v5q), some (aI v6q), some (aI v7q), none, none, none] [] h) (H : b_X12_ofWord_16 v0 v1 v2 h K136 k v3 v4 v5 v6 v7 = some r) : Go M_X12_ofWord (some (aI r), h) 16 [some (aA v0), some (aI v1), some (aI v2), some (aI v3), some (aI v4), some (aI v5), some (aI v6), some (aI v7), none, none, none] [] h := by
  unfold b_X12_ofWord_16 at H
  refine go_iload dX12_ofWord_16 rfl ?_
  refine go_bipush (v := (40 : Int32)) dX12_ofWord_18 rfl ?_
  refine go_icmp_ge (tgt := 136) dX12_ofWord_20 (by decide) (fun c1 => ?_) (fun c1 => ?_)
  · replace H := (gm_ite H).1 c1
    refine go_mask [false, true, true, true, true, true, true, false, false, false, false] (loc' := [none, some (aI v1), some (aI v2), some (aI v3), some (aI v4), some (aI v5), some (aI v6), none, none, none, none]) rfl ?_
    exact HK136 v3 v4 v5 v6 H
  · replace H := (gm_ite H).2 c1
    refine go_iload dX12_ofWord_23 rfl ?_
    refine go_bipush (v := (10 : Int32)) dX12_ofWord_25 rfl ?_
    refine go_idiv dX12_ofWord_27 (by decide) ?_
    refine go_istore (loc2 := [some (aA v0), some (aI v1), some (aI v2), some (aI v3), some (aI v4), some (aI v5), some (aI v6), some (aI v7), some (aI (v7 / (10 : Int32))), none, none]) dX12_ofWord_28 (by decide) rfl ?_
    refine go_iload dX12_ofWord_30 rfl ?_
    refine go_bipush (v := (10 : Int32)) dX12_ofWord_32 rfl ?_
    refine go_irem dX12_ofWord_34 (by decide) ?_
    refine go_istore (loc2 := [some (aA v0), some (aI v1), some (aI v2), some (aI v3), some (aI v4), some (aI v5), some (aI v6), some (aI v7), some (aI (v7 / (10 : Int32))), some (aI (iremF v7 (10 : Int32))), none]) dX12_ofWord_35 (by decide) rfl ?_
    refine go_aloadn dX12_ofWord_37 rfl ?_
    refine go_iload dX12_ofWord_38 rfl ?_
    refine go_iload dX12_ofWord_40 rfl ?_
    obtain ⟨c2, x1, ex1, H⟩ := gm_rc H
    refine go_callV (vs := [aI (v7 / (10 : Int32)), aI (iremF v7 (10 : Int32))]) (stk := []) (o1 := (some (aI x1), h)) mk_X12_isVersion sv_X12_ofWord_284 cl_X12 rfl dX12_ofWord_42 c2 rfl rfl (Nat.le_of_ble_eq_true rfl) (Nat.le_of_ble_eq_true rfl) (ok_X12_isVersion ex1) (show Go M_X12_ofWord (some (aI r), h) 45 [some (aA v0), some (aI v1), some (aI v2), some (aI v3), some (aI v4), some (aI v5), some (aI v6), some (aI v7), some (aI (v7 / (10 : Int32))), some (aI (iremF v7 (10 : Int32))), none] [aI x1] h from ?_)
    refine go_if_eq (tgt := 60) dX12_ofWord_45 (by decide) (fun c3 => ?_) (fun c3 => ?_)
    · replace H := (gm_ite H).1 c3
      refine go_iconst (v := (0 : Int32)) dX12_ofWord_60 rfl ?_
      refine go_mask [true, true, true, true, true, true, true, true, true, false, false] (loc' := [some (aA v0), some (aI v1), some (aI v2), some (aI v3), some (aI v4), some (aI v5), some (aI v6), some (aI v7), some (aI (v7 / (10 : Int32))), none, none]) rfl ?_
      exact okj_X12_ofWord_61 v0 v1 v2 v3 v4 v5 v6 v7 (v7 / (10 : Int32)) (0 : Int32) h K136 k HK136 Hk H
    · replace H := (gm_ite H).2 c3
      refine go_aloadn dX12_ofWord_48 rfl ?_
      refine go_iload dX12_ofWord_49 rfl ?_
      refine go_iload dX12_ofWord_51 rfl ?_
      refine go_iloadn dX12_ofWord_53 rfl ?_
      obtain ⟨c4, x2, ex2, H⟩ := gm_rc H
      refine go_callV (vs := [aI (v7 / (10 : Int32)), aI (iremF v7 (10 : Int32)), aI v1]) (stk := []) (o1 := (some (aI x2), h)) mk_X12_timesIn sv_X12_ofWord_362 cl_X12 rfl dX12_ofWord_54 c4 rfl rfl (Nat.le_of_ble_eq_true rfl) (Nat.le_of_ble_eq_true rfl) (ok_X12_timesIn ex2) (show Go M_X12_ofWord (some (aI r), h) 57 [some (aA v0), some (aI v1), some (aI v2), some (aI v3), some (aI v4), some (aI v5), some (aI v6), some (aI v7), some (aI (v7 / (10 : Int32))), some (aI (iremF v7 (10 : Int32))), none] [aI x2] h from ?_)
      refine go_goto (tgt := 61) dX12_ofWord_57 (by decide) ?_
      refine go_mask [true, true, true, true, true, true, true, true, true, false, false] (loc' := [some (aA v0), some (aI v1), some (aI v2), some (aI v3), some (aI v4), some (aI v5), some (aI v6), some (aI v7), some (aI (v7 / (10 : Int32))), none, none]) rfl ?_
      exact okj_X12_ofWord_61 v0 v1 v2 v3 v4 v5 v6 v7 (v7 / (10 : Int32)) x2 h K136 k HK136 Hk H
def l_X12_ofWord_16 (v0 : Nat) (v1 : Int32) (v2 : Int32) (h : Hp) (K136 : Int32 → Int32 → Int32 → Int32 → Option Int32) (v3 : Int32) (v4 : Int32) (v5 : Int32) (v6 : Int32) (v7 : Int32) : Option Int32 := loopK FUEL (fun (k : Int32 × Int32 × Int32 × Int32 × Int32 → Option Int32) (s : Int32 × Int32 × Int32 × Int32 × Int32) => b_X12_ofWord_16 v0 v1 v2 h K136 (fun v3q v4q v5q v6q v7q => k (v3q, v4q, v5q, v6q, v7q)) s.1 s.2.1 s.2.2.1 s.2.2.2.1 s.2.2.2.2) (v3, v4, v5, v6, v7)
theorem okl_X12_ofWord_16 {r : Int32} (v0 : Nat) (v1 : Int32) (v2 : Int32) (h : Hp) (K136 : Int32 → Int32 → Int32 → Int32 → Option Int32) (v3 : Int32) (v4 : Int32) (v5 : Int32) (v6 : Int32) (v7 : Int32) (HK136 : ∀ (v3q : Int32) (v4q : Int32) (v5q : Int32) (v6q : Int32) , K136 v3q v4q v5q v6q = some r → Go M_X12_ofWord (some (aI r), h) 136 [none, some (aI v1), some (aI v2), some (aI v3q), some (aI v4q), some (aI v5q), some (aI v6q), none, none, none, none] [] h) (H : l_X12_ofWord_16 v0 v1 v2 h K136 v3 v4 v5 v6 v7 = some r) : Go M_X12_ofWord (some (aI r), h) 16 [some (aA v0), some (aI v1), some (aI v2), some (aI v3), some (aI v4), some (aI v5), some (aI v6), some (aI v7), none, none, none] [] h := by
  unfold l_X12_ofWord_16 at H
  exact go_loop (σ := Int32 × Int32 × Int32 × Int32 × Int32) (body := (fun (k : Int32 × Int32 × Int32 × Int32 × Int32 → Option Int32) (s : Int32 × Int32 × Int32 × Int32 × Int32) => b_X12_ofWord_16 v0 v1 v2 h K136 (fun v3q v4q v5q v6q v7q => k (v3q, v4q, v5q, v6q, v7q)) s.1 s.2.1 s.2.2.1 s.2.2.2.1 s.2.2.2.2)) (fun s => [some (aA v0), some (aI v1), some (aI v2), some (aI s.1), some (aI s.2.1), some (aI s.2.2.1), some (aI s.2.2.2.1), some (aI s.2.2.2.2), none, none, none]) (fun s => h) (fun k s Hk H => okb_X12_ofWord_16 v0 v1 v2 h K136 (fun v3q v4q v5q v6q v7q => k (v3q, v4q, v5q, v6q, v7q)) s.1 s.2.1 s.2.2.1 s.2.2.2.1 s.2.2.2.2 HK136 (fun v3q v4q v5q v6q v7q H => Hk (v3q, v4q, v5q, v6q, v7q) H) H) FUEL (v3, v4, v5, v6, v7) H
def j_X12_ofWord_136 (v1 : Int32) (v2 : Int32) (v3 : Int32) (v4 : Int32) (v5 : Int32) (v6 : Int32)  (h : Hp) : Option Int32 :=
  if v2 = (0 : Int32) then (some v1) else if v2 = (1 : Int32) then (some v3) else if v2 = (2 : Int32) then (some v4) else if v2 = (3 : Int32) then (some v5) else if v2 = (4 : Int32) then (some v6) else some (-1 : Int32)
set_option maxRecDepth 20000 in
theorem okj_X12_ofWord_136 {r : Int32} (v1 : Int32) (v2 : Int32) (v3 : Int32) (v4 : Int32) (v5 : Int32) (v6 : Int32)  (h : Hp) (H : j_X12_ofWord_136 v1 v2 v3 v4 v5 v6 h = some r) : Go M_X12_ofWord (some (aI r), h) 136 [none, some (aI v1), some (aI v2), some (aI v3), some (aI v4), some (aI v5), some (aI v6), none, none, none, none] [] h := by
  unfold j_X12_ofWord_136 at H
  refine go_iloadn dX12_ofWord_136 rfl ?_
  by_cases c1 : v2 = (0 : Int32)
  · replace H := (gm_ite H).1 c1
    refine go_eqI c1 ?_
    refine go_tableIn (tgt := 172) dX12_ofWord_137 (by decide) (by decide) rfl (by decide) ?_
    refine go_iloadn dX12_ofWord_172 rfl ?_
    obtain rfl := Option.some.inj H
    exact go_ireturn dX12_ofWord_173 (tyI_int rfl)
  · replace H := (gm_ite H).2 c1
    by_cases c2 : v2 = (1 : Int32)
    · replace H := (gm_ite H).1 c2
      refine go_eqI c2 ?_
      refine go_tableIn (tgt := 174) dX12_ofWord_137 (by decide) (by decide) rfl (by decide) ?_
      refine go_iloadn dX12_ofWord_174 rfl ?_
      obtain rfl := Option.some.inj H
      exact go_ireturn dX12_ofWord_175 (tyI_int rfl)
    · replace H := (gm_ite H).2 c2
      by_cases c3 : v2 = (2 : Int32)
      · replace H := (gm_ite H).1 c3
        refine go_eqI c3 ?_
        refine go_tableIn (tgt := 176) dX12_ofWord_137 (by decide) (by decide) rfl (by decide) ?_
        refine go_iload dX12_ofWord_176 rfl ?_
        obtain rfl := Option.some.inj H
        exact go_ireturn dX12_ofWord_178 (tyI_int rfl)
      · replace H := (gm_ite H).2 c3
        by_cases c4 : v2 = (3 : Int32)
        · replace H := (gm_ite H).1 c4
          refine go_eqI c4 ?_
          refine go_tableIn (tgt := 179) dX12_ofWord_137 (by decide) (by decide) rfl (by decide) ?_
          refine go_iload dX12_ofWord_179 rfl ?_
          obtain rfl := Option.some.inj H
          exact go_ireturn dX12_ofWord_181 (tyI_int rfl)
        · replace H := (gm_ite H).2 c4
          by_cases c5 : v2 = (4 : Int32)
          · replace H := (gm_ite H).1 c5
            refine go_eqI c5 ?_
            refine go_tableIn (tgt := 182) dX12_ofWord_137 (by decide) (by decide) rfl (by decide) ?_
            refine go_iload dX12_ofWord_182 rfl ?_
            obtain rfl := Option.some.inj H
            exact go_ireturn dX12_ofWord_184 (tyI_int rfl)
          · replace H := (gm_ite H).2 c5
            refine go_tableOut (tgt := 185) dX12_ofWord_137 (sw_out (fun i h1 h2 e => ?_)) (by decide) ?_
            · have h3 : i = 0 ∨ i = 1 ∨ i = 2 ∨ i = 3 ∨ i = 4 := by omega
              rcases h3 with rfl | rfl | rfl | rfl | rfl
              · exact sw_ne c1 (by decide) e
              · exact sw_ne c2 (by decide) e
              · exact sw_ne c3 (by decide) e
              · exact sw_ne c4 (by decide) e
              · exact sw_ne c5 (by decide) e
            · skip
              refine go_iconst (v := (-1 : Int32)) dX12_ofWord_185 rfl ?_
              obtain rfl := Option.some.inj H
              exact go_ireturn dX12_ofWord_186 (tyI_int rfl)
def m_X12_ofWord (v0 : Nat) (v1 : Int32) (v2 : Int32) (h : Hp) : Option Int32 :=
  l_X12_ofWord_16 v0 v1 v2 h (fun a1_3 a1_4 a1_5 a1_6 => j_X12_ofWord_136 v1 v2 a1_3 a1_4 a1_5 a1_6 h) (0 : Int32) (0 : Int32) (1000000 : Int32) (0 : Int32) (0 : Int32)
set_option maxRecDepth 20000 in
theorem ok_X12_ofWord {r : Int32} {v0 : Nat} {v1 : Int32} {v2 : Int32} {h : Hp} (H : m_X12_ofWord v0 v1 v2 h = some r) : Ev M_X12_ofWord [aA v0, aI v1, aI v2] h (some (aI r), h) := by
  show Go M_X12_ofWord (some (aI r), h) 0 [some (aA v0), some (aI v1), some (aI v2), none, none, none, none, none, none, none, none] [] h
  unfold m_X12_ofWord at H
  refine go_iconst (v := (0 : Int32)) dX12_ofWord_0 rfl ?_
  refine go_istoren (loc2 := [some (aA v0), some (aI v1), some (aI v2), some (aI (0 : Int32)), none, none, none, none, none, none, none]) dX12_ofWord_1 rfl (by decide) rfl ?_
  refine go_iconst (v := (0 : Int32)) dX12_ofWord_2 rfl ?_
  refine go_istore (loc2 := [some (aA v0), some (aI v1), some (aI v2), some (aI (0 : Int32)), some (aI (0 : Int32)), none, none, none, none, none, none]) dX12_ofWord_3 (by decide) rfl ?_
  refine go_ldcw (v := (1000000 : Int32)) tw1795 dX12_ofWord_5 ?_
  refine go_istore (loc2 := [some (aA v0), some (aI v1), some (aI v2), some (aI (0 : Int32)), some (aI (0 : Int32)), some (aI (1000000 : Int32)), none, none, none, none, none]) dX12_ofWord_8 (by decide) rfl ?_
  refine go_iconst (v := (0 : Int32)) dX12_ofWord_10 rfl ?_
  refine go_istore (loc2 := [some (aA v0), some (aI v1), some (aI v2), some (aI (0 : Int32)), some (aI (0 : Int32)), some (aI (1000000 : Int32)), some (aI (0 : Int32)), none, none, none, none]) dX12_ofWord_11 (by decide) rfl ?_
  refine go_iconst (v := (0 : Int32)) dX12_ofWord_13 rfl ?_
  refine go_istore (loc2 := [some (aA v0), some (aI v1), some (aI v2), some (aI (0 : Int32)), some (aI (0 : Int32)), some (aI (1000000 : Int32)), some (aI (0 : Int32)), some (aI (0 : Int32)), none, none, none]) dX12_ofWord_14 (by decide) rfl ?_
  refine okl_X12_ofWord_16 v0 v1 v2 h (fun a1_3 a1_4 a1_5 a1_6 => j_X12_ofWord_136 v1 v2 a1_3 a1_4 a1_5 a1_6 h) (0 : Int32) (0 : Int32) (1000000 : Int32) (0 : Int32) (0 : Int32) ?_ H
  · intro a1_3 a1_4 a1_5 a1_6 H
    exact okj_X12_ofWord_136 v1 v2 a1_3 a1_4 a1_5 a1_6 h  H
/-! X12_word -/
def j_X12_word_48  (s0 : Int32) (h : Hp) : Option (Int32 × Hp) :=
  some (s0, h)
set_option maxRecDepth 20000 in
theorem okj_X12_word_48 {r : (Int32 × Hp)}  (s0 : Int32) (h : Hp) (H : j_X12_word_48 s0 h = some r) : Go M_X12_word (some (aI r.1), r.2) 48 [none, none, none, none] [aI s0] h := by
  unfold j_X12_word_48 at H
  obtain rfl := Option.some.inj H
  exact go_ireturn dX12_word_48 (tyI_int rfl)
def m_X12_word (v0 : Nat) (v1 : Int32) (v2 : Int32) (v3 : Int32) (h : Hp) : Option (Int32 × Hp) :=
  (pfI h v0 12 0 (0 : Int32)).bind fun hh1 => (rc hh1 v0 12 (m_X12_hand v0 v1 hh1)).bind fun x1 => if ¬ x1.1 = 0 then ((rc x1.2 v0 12 (m_X12_layWords v0 x1.2)).bind fun x2 => (gfI x2 v0 12 25).bind fun x3 => (m_X12_in v2 (0 : Int32) (x3 - (1 : Int32)) x2).bind fun x4 => if x4 = 0 then j_X12_word_48 (-1 : Int32) x2 else (gfR x2 v0 12 26).bind fun x5 => (alI x2 x5 v2).bind fun x6 => (rc x2 v0 12 (m_X12_ofWord v0 x6 v3 x2)).bind fun x7 => j_X12_word_48 x7 x2) else some ((-1 : Int32), x1.2)
set_option maxRecDepth 20000 in
theorem ok_X12_word {r : (Int32 × Hp)} {v0 : Nat} {v1 : Int32} {v2 : Int32} {v3 : Int32} {h : Hp} (H : m_X12_word v0 v1 v2 v3 h = some r) : Ev M_X12_word [aA v0, aI v1, aI v2, aI v3] h (some (aI r.1), r.2) := by
  show Go M_X12_word (some (aI r.1), r.2) 0 [some (aA v0), some (aI v1), some (aI v2), some (aI v3)] [] h
  unfold m_X12_word at H
  refine go_aloadn dX12_word_0 rfl ?_
  refine go_iconst (v := (0 : Int32)) dX12_word_1 rfl ?_
  refine gm_putI fd_X12_60 (Or.inl rfl) dX12_word_2 H (fun hh1 H => ?_)
  refine go_aloadn dX12_word_5 rfl ?_
  refine go_iloadn dX12_word_6 rfl ?_
  obtain ⟨c1, x1, ex1, H⟩ := gm_rc H
  refine go_callV (vs := [aI v1]) (stk := []) (o1 := (some (aI x1.1), x1.2)) mk_X12_hand sv_X12_word_313 cl_X12 rfl dX12_word_7 c1 rfl rfl (Nat.le_of_ble_eq_true rfl) (Nat.le_of_ble_eq_true rfl) (ok_X12_hand ex1) (show Go M_X12_word (some (aI r.1), r.2) 10 [some (aA v0), some (aI v1), some (aI v2), some (aI v3)] [aI x1.1] x1.2 from ?_)
  refine go_if_ne (tgt := 15) dX12_word_10 (by decide) (fun c2 => ?_) (fun c2 => ?_)
  · replace H := (gm_ite H).1 c2
    refine go_aloadn dX12_word_15 rfl ?_
    obtain ⟨c3, x2, ex2, H⟩ := gm_rc H
    refine go_callV (vs := []) (stk := []) (o1 := (none, x2)) mk_X12_layWords sv_X12_word_334 cl_X12 rfl dX12_word_16 c3 rfl rfl (Nat.le_of_ble_eq_true rfl) (Nat.le_of_ble_eq_true rfl) (ok_X12_layWords ex2) (show Go M_X12_word (some (aI r.1), r.2) 19 [some (aA v0), some (aI v1), some (aI v2), some (aI v3)] [] x2 from ?_)
    refine go_iloadn dX12_word_19 rfl ?_
    refine go_iconst (v := (0 : Int32)) dX12_word_20 rfl ?_
    refine go_aloadn dX12_word_21 rfl ?_
    refine gm_getI fd_X12_337 dX12_word_22 H (fun x3 H => ?_)
    refine go_iconst (v := (1 : Int32)) dX12_word_25 rfl ?_
    refine go_isub dX12_word_26 ?_
    obtain ⟨x4, ex4, H⟩ := bind_some H
    refine go_callS (vs := [aI v2, aI (0 : Int32), aI (x3 - (1 : Int32))]) (stk := []) (o1 := (some (aI x4), x2)) mk_X12_in ss_X12_word_72 dX12_word_27 rfl rfl (Nat.le_of_ble_eq_true rfl) (Nat.le_of_ble_eq_true rfl) (ok_X12_in ex4) (show Go M_X12_word (some (aI r.1), r.2) 30 [some (aA v0), some (aI v1), some (aI v2), some (aI v3)] [aI x4] x2 from ?_)
    refine go_if_eq (tgt := 47) dX12_word_30 (by decide) (fun c5 => ?_) (fun c5 => ?_)
    · replace H := (gm_ite H).1 c5
      refine go_iconst (v := (-1 : Int32)) dX12_word_47 rfl ?_
      refine go_mask [false, false, false, false] (loc' := [none, none, none, none]) rfl ?_
      exact okj_X12_word_48 (-1 : Int32) x2  H
    · replace H := (gm_ite H).2 c5
      refine go_aloadn dX12_word_33 rfl ?_
      refine go_aloadn dX12_word_34 rfl ?_
      refine gm_getR fd_X12_44 dX12_word_35 H (fun x5 H => ?_)
      refine go_iloadn dX12_word_38 rfl ?_
      refine gm_iald dX12_word_39 H (fun x6 H => ?_)
      refine go_iloadn dX12_word_40 rfl ?_
      obtain ⟨c6, x7, ex7, H⟩ := gm_rc H
      refine go_callV (vs := [aI x6, aI v3]) (stk := []) (o1 := (some (aI x7), x2)) mk_X12_ofWord sv_X12_word_365 cl_X12 rfl dX12_word_41 c6 rfl rfl (Nat.le_of_ble_eq_true rfl) (Nat.le_of_ble_eq_true rfl) (ok_X12_ofWord ex7) (show Go M_X12_word (some (aI r.1), r.2) 44 [some (aA v0), some (aI v1), some (aI v2), some (aI v3)] [aI x7] x2 from ?_)
      refine go_goto (tgt := 48) dX12_word_44 (by decide) ?_
      refine go_mask [false, false, false, false] (loc' := [none, none, none, none]) rfl ?_
      exact okj_X12_word_48 x7 x2  H
  · replace H := (gm_ite H).2 c2
    refine go_iconst (v := (-1 : Int32)) dX12_word_13 rfl ?_
    obtain rfl := Option.some.inj H
    exact go_ireturn dX12_word_14 (tyI_int rfl)
/-! X2_documentOfDate -/
def b_X2_documentOfDate_13 (v1 : Nat) (v2 : Int32) (v3 : Int32) (h : Hp) (K42 : Option Int32) (k : Int32 → Option Int32) (v4 : Int32) : Option Int32 :=
  (rc h v1 1 (m_X0_versionsOf v1 v3 h)).bind fun x1 => if x1 ≤ v4 then K42 else (rc h v1 1 (m_X0_dateOf v1 v3 v4 h)).bind fun x2 => if ¬ x2 = v2 then (k (v4 + (1 : Int32))) else some v3
set_option maxRecDepth 20000 in
theorem okb_X2_documentOfDate_13 {r : Int32} (v1 : Nat) (v2 : Int32) (v3 : Int32) (h : Hp) (K42 : Option Int32) (k : Int32 → Option Int32) (v4 : Int32) (HK42 : K42 = some r → Go M_X2_documentOfDate (some (aI r), h) 42 [none, some (aA v1), some (aI v2), some (aI v3), none] [] h) (Hk : ∀ (v4q : Int32), k v4q = some r → Go M_X2_documentOfDate (some (aI r), h) 13 [none, some (aA v1), some (aI v2), some (aI v3), some (aI v4q)] [] h) (H : b_X2_documentOfDate_13 v1 v2 v3 h K42 k v4 = some r) : Go M_X2_documentOfDate (some (aI r), h) 13 [none, some (aA v1), some (aI v2), some (aI v3), some (aI v4)] [] h := by
  unfold b_X2_documentOfDate_13 at H
  refine go_iload dX2_documentOfDate_13 rfl ?_
  refine go_aloadn dX2_documentOfDate_15 rfl ?_
  refine go_iloadn dX2_documentOfDate_16 rfl ?_
  obtain ⟨c1, x1, ex1, H⟩ := gm_rc H
  refine go_callV (vs := [aI v3]) (stk := [aI v4]) (o1 := (some (aI x1), h)) mk_X0_versionsOf sv_X2_documentOfDate_21 cl_X0 rfl dX2_documentOfDate_17 c1 rfl rfl (Nat.le_of_ble_eq_true rfl) (Nat.le_of_ble_eq_true rfl) (ok_X0_versionsOf ex1) (show Go M_X2_documentOfDate (some (aI r), h) 20 [none, some (aA v1), some (aI v2), some (aI v3), some (aI v4)] [aI x1, aI v4] h from ?_)
  refine go_icmp_ge (tgt := 42) dX2_documentOfDate_20 (by decide) (fun c2 => ?_) (fun c2 => ?_)
  · replace H := (gm_ite H).1 c2
    refine go_mask [false, true, true, true, false] (loc' := [none, some (aA v1), some (aI v2), some (aI v3), none]) rfl ?_
    exact HK42  H
  · replace H := (gm_ite H).2 c2
    refine go_aloadn dX2_documentOfDate_23 rfl ?_
    refine go_iloadn dX2_documentOfDate_24 rfl ?_
    refine go_iload dX2_documentOfDate_25 rfl ?_
    obtain ⟨c3, x2, ex2, H⟩ := gm_rc H
    refine go_callV (vs := [aI v3, aI v4]) (stk := []) (o1 := (some (aI x2), h)) mk_X0_dateOf sv_X2_documentOfDate_95 cl_X0 rfl dX2_documentOfDate_27 c3 rfl rfl (Nat.le_of_ble_eq_true rfl) (Nat.le_of_ble_eq_true rfl) (ok_X0_dateOf ex2) (show Go M_X2_documentOfDate (some (aI r), h) 30 [none, some (aA v1), some (aI v2), some (aI v3), some (aI v4)] [aI x2] h from ?_)
    refine go_iloadn dX2_documentOfDate_30 rfl ?_
    refine go_icmp_ne (tgt := 36) dX2_documentOfDate_31 (by decide) (fun c4 => ?_) (fun c4 => ?_)
    · replace H := (gm_ite H).1 c4
      refine go_iinc (v := (v4 + (1 : Int32))) (loc2 := [none, some (aA v1), some (aI v2), some (aI v3), some (aI (v4 + (1 : Int32)))]) dX2_documentOfDate_36 rfl rfl (by decide) rfl ?_
      refine go_goto (tgt := 13) dX2_documentOfDate_39 (by decide) ?_
      exact Hk (v4 + (1 : Int32)) H
    · replace H := (gm_ite H).2 c4
      refine go_iloadn dX2_documentOfDate_34 rfl ?_
      obtain rfl := Option.some.inj H
      exact go_ireturn dX2_documentOfDate_35 (tyI_int rfl)
def l_X2_documentOfDate_13 (v1 : Nat) (v2 : Int32) (v3 : Int32) (h : Hp) (K42 : Option Int32) (v4 : Int32) : Option Int32 := loopK FUEL (fun (k : Int32 → Option Int32) (s : Int32) => b_X2_documentOfDate_13 v1 v2 v3 h K42 (fun v4q => k v4q) s) v4
theorem okl_X2_documentOfDate_13 {r : Int32} (v1 : Nat) (v2 : Int32) (v3 : Int32) (h : Hp) (K42 : Option Int32) (v4 : Int32) (HK42 : K42 = some r → Go M_X2_documentOfDate (some (aI r), h) 42 [none, some (aA v1), some (aI v2), some (aI v3), none] [] h) (H : l_X2_documentOfDate_13 v1 v2 v3 h K42 v4 = some r) : Go M_X2_documentOfDate (some (aI r), h) 13 [none, some (aA v1), some (aI v2), some (aI v3), some (aI v4)] [] h := by
  unfold l_X2_documentOfDate_13 at H
  exact go_loop (σ := Int32) (body := (fun (k : Int32 → Option Int32) (s : Int32) => b_X2_documentOfDate_13 v1 v2 v3 h K42 (fun v4q => k v4q) s)) (fun s => [none, some (aA v1), some (aI v2), some (aI v3), some (aI s)]) (fun s => h) (fun k s Hk H => okb_X2_documentOfDate_13 v1 v2 v3 h K42 (fun v4q => k v4q) s HK42 (fun v4q H => Hk v4q H) H) FUEL v4 H
def j_X2_documentOfDate_42 (v1 : Nat) (v2 : Int32) (v3 : Int32)  (h : Hp) (k : Int32 → Option Int32) : Option Int32 :=
  k (v3 + (1 : Int32))
set_option maxRecDepth 20000 in
theorem okj_X2_documentOfDate_42 {r : Int32} (v1 : Nat) (v2 : Int32) (v3 : Int32)  (h : Hp) (k : Int32 → Option Int32) (Hk : ∀ (v3q : Int32), k v3q = some r → Go M_X2_documentOfDate (some (aI r), h) 2 [none, some (aA v1), some (aI v2), some (aI v3q), none] [] h) (H : j_X2_documentOfDate_42 v1 v2 v3 h k = some r) : Go M_X2_documentOfDate (some (aI r), h) 42 [none, some (aA v1), some (aI v2), some (aI v3), none] [] h := by
  unfold j_X2_documentOfDate_42 at H
  refine go_iinc (v := (v3 + (1 : Int32))) (loc2 := [none, some (aA v1), some (aI v2), some (aI (v3 + (1 : Int32))), none]) dX2_documentOfDate_42 rfl rfl (by decide) rfl ?_
  refine go_goto (tgt := 2) dX2_documentOfDate_45 (by decide) ?_
  exact Hk (v3 + (1 : Int32)) H
def b_X2_documentOfDate_2 (v1 : Nat) (v2 : Int32) (h : Hp) (k : Int32 → Option Int32) (v3 : Int32) : Option Int32 :=
  (gfI h v1 1 0).bind fun x1 => if x1 ≤ v3 then (some (-1 : Int32)) else l_X2_documentOfDate_13 v1 v2 v3 h (j_X2_documentOfDate_42 v1 v2 v3 h k) (0 : Int32)
set_option maxRecDepth 20000 in
theorem okb_X2_documentOfDate_2 {r : Int32} (v1 : Nat) (v2 : Int32) (h : Hp) (k : Int32 → Option Int32) (v3 : Int32) (Hk : ∀ (v3q : Int32), k v3q = some r → Go M_X2_documentOfDate (some (aI r), h) 2 [none, some (aA v1), some (aI v2), some (aI v3q), none] [] h) (H : b_X2_documentOfDate_2 v1 v2 h k v3 = some r) : Go M_X2_documentOfDate (some (aI r), h) 2 [none, some (aA v1), some (aI v2), some (aI v3), none] [] h := by
  unfold b_X2_documentOfDate_2 at H
  refine go_iloadn dX2_documentOfDate_2 rfl ?_
  refine go_aloadn dX2_documentOfDate_3 rfl ?_
  refine gm_getI fd_X2_17 dX2_documentOfDate_4 H (fun x1 H => ?_)
  refine go_icmp_ge (tgt := 48) dX2_documentOfDate_7 (by decide) (fun c1 => ?_) (fun c1 => ?_)
  · replace H := (gm_ite H).1 c1
    refine go_iconst (v := (-1 : Int32)) dX2_documentOfDate_48 rfl ?_
    obtain rfl := Option.some.inj H
    exact go_ireturn dX2_documentOfDate_49 (tyI_int rfl)
  · replace H := (gm_ite H).2 c1
    refine go_iconst (v := (0 : Int32)) dX2_documentOfDate_10 rfl ?_
    refine go_istore (loc2 := [none, some (aA v1), some (aI v2), some (aI v3), some (aI (0 : Int32))]) dX2_documentOfDate_11 (by decide) rfl ?_
    refine okl_X2_documentOfDate_13 v1 v2 v3 h (j_X2_documentOfDate_42 v1 v2 v3 h k) (0 : Int32) ?_ H
    · intro  H
      exact okj_X2_documentOfDate_42 v1 v2 v3 h k Hk H
def l_X2_documentOfDate_2 (v1 : Nat) (v2 : Int32) (h : Hp) (v3 : Int32) : Option Int32 := loopK FUEL (fun (k : Int32 → Option Int32) (s : Int32) => b_X2_documentOfDate_2 v1 v2 h (fun v3q => k v3q) s) v3
theorem okl_X2_documentOfDate_2 {r : Int32} (v1 : Nat) (v2 : Int32) (h : Hp) (v3 : Int32) (H : l_X2_documentOfDate_2 v1 v2 h v3 = some r) : Go M_X2_documentOfDate (some (aI r), h) 2 [none, some (aA v1), some (aI v2), some (aI v3), none] [] h := by
  unfold l_X2_documentOfDate_2 at H
  exact go_loop (σ := Int32) (body := (fun (k : Int32 → Option Int32) (s : Int32) => b_X2_documentOfDate_2 v1 v2 h (fun v3q => k v3q) s)) (fun s => [none, some (aA v1), some (aI v2), some (aI s), none]) (fun s => h) (fun k s Hk H => okb_X2_documentOfDate_2 v1 v2 h (fun v3q => k v3q) s  (fun v3q H => Hk v3q H) H) FUEL v3 H
def m_X2_documentOfDate (v0 : Nat) (v1 : Nat) (v2 : Int32) (h : Hp) : Option Int32 :=
  l_X2_documentOfDate_2 v1 v2 h (0 : Int32)
set_option maxRecDepth 20000 in
theorem ok_X2_documentOfDate {r : Int32} {v0 : Nat} {v1 : Nat} {v2 : Int32} {h : Hp} (H : m_X2_documentOfDate v0 v1 v2 h = some r) : Ev M_X2_documentOfDate [aA v0, aA v1, aI v2] h (some (aI r), h) := by
  show Go M_X2_documentOfDate (some (aI r), h) 0 [some (aA v0), some (aA v1), some (aI v2), none, none] [] h
  unfold m_X2_documentOfDate at H
  refine go_iconst (v := (0 : Int32)) dX2_documentOfDate_0 rfl ?_
  refine go_istoren (loc2 := [some (aA v0), some (aA v1), some (aI v2), some (aI (0 : Int32)), none]) dX2_documentOfDate_1 rfl (by decide) rfl ?_
  refine go_mask [false, true, true, true, false] (loc' := [none, some (aA v1), some (aI v2), some (aI (0 : Int32)), none]) rfl ?_
  exact okl_X2_documentOfDate_2 v1 v2 h (0 : Int32) H
/-! X11_dated -/
def j_X11_dated_26  (s0 : Int32) (h : Hp) : Option Int32 :=
  some s0
set_option maxRecDepth 20000 in
theorem okj_X11_dated_26 {r : Int32}  (s0 : Int32) (h : Hp) (H : j_X11_dated_26 s0 h = some r) : Go M_X11_dated (some (aI r), h) 26 [none, none, none, none] [aI s0] h := by
  unfold j_X11_dated_26 at H
  obtain rfl := Option.some.inj H
  exact go_ireturn dX11_dated_26 (tyI_int rfl)
def m_X11_dated (v0 : Nat) (v1 : Int32) (v2 : Int32) (h : Hp) : Option Int32 :=
  (gfR h v0 11 0).bind fun x1 => (rc h x1 9 (m_X9_archiveAt x1 v1 h)).bind fun x2 => (nz x2).bind fun _ => if ¬ x2 = 0 then ((gfR h v0 11 3).bind fun x3 => (rc h x3 3 (m_X2_documentOfDate x3 x2 v2 h)).bind fun x4 => j_X11_dated_26 x4 h) else j_X11_dated_26 (-1 : Int32) h
set_option maxRecDepth 20000 in
theorem ok_X11_dated {r : Int32} {v0 : Nat} {v1 : Int32} {v2 : Int32} {h : Hp} (H : m_X11_dated v0 v1 v2 h = some r) : Ev M_X11_dated [aA v0, aI v1, aI v2] h (some (aI r), h) := by
  show Go M_X11_dated (some (aI r), h) 0 [some (aA v0), some (aI v1), some (aI v2), none] [] h
  unfold m_X11_dated at H
  refine go_aloadn dX11_dated_0 rfl ?_
  refine gm_getR fd_X11_10 dX11_dated_1 H (fun x1 H => ?_)
  refine go_iloadn dX11_dated_4 rfl ?_
  obtain ⟨c1, x2, ex2, H⟩ := gm_rc H
  refine go_callV (vs := [aI v1]) (stk := []) (o1 := (some (aA x2), h)) mk_X9_archiveAt sv_X11_dated_86 cl_X9 rfl dX11_dated_5 c1 rfl rfl (Nat.le_of_ble_eq_true rfl) (Nat.le_of_ble_eq_true rfl) (ok_X9_archiveAt ex2) (show Go M_X11_dated (some (aI r), h) 8 [some (aA v0), some (aI v1), some (aI v2), none] [aA x2] h from ?_)
  refine go_astoren (loc2 := [some (aA v0), some (aI v1), some (aI v2), some (aA x2)]) dX11_dated_8 rfl (by decide) rfl ?_
  refine go_aloadn dX11_dated_9 rfl ?_
  obtain ⟨c3, H⟩ := gm_nz H
  refine go_ifnonnull (tgt := 17) dX11_dated_10 (by decide) c3 (fun c2 => ?_) (fun c2 => ?_)
  · replace H := (gm_ite H).1 c2
    refine go_aloadn dX11_dated_17 rfl ?_
    refine gm_getR fd_X11_30 dX11_dated_18 H (fun x3 H => ?_)
    refine go_aloadn dX11_dated_21 rfl ?_
    refine go_iloadn dX11_dated_22 rfl ?_
    obtain ⟨c4, x4, ex4, H⟩ := gm_rc H
    refine go_callV (vs := [aA x2, aI v2]) (stk := []) (o1 := (some (aI x4), h)) mk_X2_documentOfDate sv_X11_dated_220 cl_X2 rfl dX11_dated_23 c4 rfl rfl (Nat.le_of_ble_eq_true rfl) (Nat.le_of_ble_eq_true rfl) (ok_X2_documentOfDate ex4) (show Go M_X11_dated (some (aI r), h) 26 [some (aA v0), some (aI v1), some (aI v2), some (aA x2)] [aI x4] h from ?_)
    refine go_mask [false, false, false, false] (loc' := [none, none, none, none]) rfl ?_
    exact okj_X11_dated_26 x4 h  H
  · replace H := (gm_ite H).2 (fun q => q c2)
    refine go_iconst (v := (-1 : Int32)) dX11_dated_13 rfl ?_
    refine go_goto (tgt := 26) dX11_dated_14 (by decide) ?_
    refine go_mask [false, false, false, false] (loc' := [none, none, none, none]) rfl ?_
    exact okj_X11_dated_26 (-1 : Int32) h  H
/-! X12_dated -/
def j_X12_dated_56 (v0 : Nat) (v2 : Int32) (v3 : Int32)  (h : Hp) (K51 : Int32 → Option (Int32 × Hp)) (k : Int32 → Option (Int32 × Hp)) : Option (Int32 × Hp) :=
  k (v3 + (1 : Int32))
set_option maxRecDepth 20000 in
theorem okj_X12_dated_56 {r : (Int32 × Hp)} (v0 : Nat) (v2 : Int32) (v3 : Int32)  (h : Hp) (K51 : Int32 → Option (Int32 × Hp)) (k : Int32 → Option (Int32 × Hp)) (HK51 : ∀ (v3q : Int32) , K51 v3q = some r → Go M_X12_dated (some (aI r.1), r.2) 51 [none, none, none, some (aI v3q)] [] h) (Hk : ∀ (v3q : Int32), k v3q = some r → Go M_X12_dated (some (aI r.1), r.2) 17 [some (aA v0), none, some (aI v2), some (aI v3q)] [] h) (H : j_X12_dated_56 v0 v2 v3 h K51 k = some r) : Go M_X12_dated (some (aI r.1), r.2) 56 [some (aA v0), none, some (aI v2), some (aI v3)] [] h := by
  unfold j_X12_dated_56 at H
  refine go_iinc (v := (v3 + (1 : Int32))) (loc2 := [some (aA v0), none, some (aI v2), some (aI (v3 + (1 : Int32)))]) dX12_dated_56 rfl rfl (by decide) rfl ?_
  refine go_goto (tgt := 17) dX12_dated_59 (by decide) ?_
  exact Hk (v3 + (1 : Int32)) H
def b_X12_dated_17 (v0 : Nat) (v2 : Int32) (h : Hp) (K51 : Int32 → Option (Int32 × Hp)) (k : Int32 → Option (Int32 × Hp)) (v3 : Int32) : Option (Int32 × Hp) :=
  if (40 : Int32) ≤ v3 then (some ((-1 : Int32), h)) else (rc h v0 12 (m_X12_isVersion v0 (v3 / (10 : Int32)) (iremF v3 (10 : Int32)) h)).bind fun x1 => if x1 = 0 then j_X12_dated_56 v0 v2 v3 h K51 k else (gfR h v0 12 18).bind fun x2 => (alI h x2 ((6 : Int32) + v3)).bind fun x3 => if ¬ x3 = v2 then j_X12_dated_56 v0 v2 v3 h K51 k else K51 v3
set_option maxRecDepth 20000 in
theorem okb_X12_dated_17 {r : (Int32 × Hp)} (v0 : Nat) (v2 : Int32) (h : Hp) (K51 : Int32 → Option (Int32 × Hp)) (k : Int32 → Option (Int32 × Hp)) (v3 : Int32) (HK51 : ∀ (v3q : Int32) , K51 v3q = some r → Go M_X12_dated (some (aI r.1), r.2) 51 [none, none, none, some (aI v3q)] [] h) (Hk : ∀ (v3q : Int32), k v3q = some r → Go M_X12_dated (some (aI r.1), r.2) 17 [some (aA v0), none, some (aI v2), some (aI v3q)] [] h) (H : b_X12_dated_17 v0 v2 h K51 k v3 = some r) : Go M_X12_dated (some (aI r.1), r.2) 17 [some (aA v0), none, some (aI v2), some (aI v3)] [] h := by
  unfold b_X12_dated_17 at H
  refine go_iloadn dX12_dated_17 rfl ?_
  refine go_bipush (v := (40 : Int32)) dX12_dated_18 rfl ?_
  refine go_icmp_ge (tgt := 62) dX12_dated_20 (by decide) (fun c1 => ?_) (fun c1 => ?_)
  · replace H := (gm_ite H).1 c1
    refine go_iconst (v := (-1 : Int32)) dX12_dated_62 rfl ?_
    obtain rfl := Option.some.inj H
    exact go_ireturn dX12_dated_63 (tyI_int rfl)
  · replace H := (gm_ite H).2 c1
    refine go_aloadn dX12_dated_23 rfl ?_
    refine go_iloadn dX12_dated_24 rfl ?_
    refine go_bipush (v := (10 : Int32)) dX12_dated_25 rfl ?_
    refine go_idiv dX12_dated_27 (by decide) ?_
    refine go_iloadn dX12_dated_28 rfl ?_
    refine go_bipush (v := (10 : Int32)) dX12_dated_29 rfl ?_
    refine go_irem dX12_dated_31 (by decide) ?_
    obtain ⟨c2, x1, ex1, H⟩ := gm_rc H
    refine go_callV (vs := [aI (v3 / (10 : Int32)), aI (iremF v3 (10 : Int32))]) (stk := []) (o1 := (some (aI x1), h)) mk_X12_isVersion sv_X12_dated_284 cl_X12 rfl dX12_dated_32 c2 rfl rfl (Nat.le_of_ble_eq_true rfl) (Nat.le_of_ble_eq_true rfl) (ok_X12_isVersion ex1) (show Go M_X12_dated (some (aI r.1), r.2) 35 [some (aA v0), none, some (aI v2), some (aI v3)] [aI x1] h from ?_)
    refine go_if_eq (tgt := 56) dX12_dated_35 (by decide) (fun c3 => ?_) (fun c3 => ?_)
    · replace H := (gm_ite H).1 c3
      exact okj_X12_dated_56 v0 v2 v3 h K51 k HK51 Hk H
    · replace H := (gm_ite H).2 c3
      refine go_aloadn dX12_dated_38 rfl ?_
      refine gm_getR fd_X12_35 dX12_dated_39 H (fun x2 H => ?_)
      refine go_bipush (v := (6 : Int32)) dX12_dated_42 rfl ?_
      refine go_iloadn dX12_dated_44 rfl ?_
      refine go_iadd dX12_dated_45 ?_
      refine gm_iald dX12_dated_46 H (fun x3 H => ?_)
      refine go_iloadn dX12_dated_47 rfl ?_
      refine go_icmp_ne (tgt := 56) dX12_dated_48 (by decide) (fun c4 => ?_) (fun c4 => ?_)
      · replace H := (gm_ite H).1 c4
        exact okj_X12_dated_56 v0 v2 v3 h K51 k HK51 Hk H
      · replace H := (gm_ite H).2 c4
        refine go_mask [false, false, false, true] (loc' := [none, none, none, some (aI v3)]) rfl ?_
        exact HK51 v3 H
def l_X12_dated_17 (v0 : Nat) (v2 : Int32) (h : Hp) (K51 : Int32 → Option (Int32 × Hp)) (v3 : Int32) : Option (Int32 × Hp) := loopK FUEL (fun (k : Int32 → Option (Int32 × Hp)) (s : Int32) => b_X12_dated_17 v0 v2 h K51 (fun v3q => k v3q) s) v3
theorem okl_X12_dated_17 {r : (Int32 × Hp)} (v0 : Nat) (v2 : Int32) (h : Hp) (K51 : Int32 → Option (Int32 × Hp)) (v3 : Int32) (HK51 : ∀ (v3q : Int32) , K51 v3q = some r → Go M_X12_dated (some (aI r.1), r.2) 51 [none, none, none, some (aI v3q)] [] h) (H : l_X12_dated_17 v0 v2 h K51 v3 = some r) : Go M_X12_dated (some (aI r.1), r.2) 17 [some (aA v0), none, some (aI v2), some (aI v3)] [] h := by
  unfold l_X12_dated_17 at H
  exact go_loop (σ := Int32) (body := (fun (k : Int32 → Option (Int32 × Hp)) (s : Int32) => b_X12_dated_17 v0 v2 h K51 (fun v3q => k v3q) s)) (fun s => [some (aA v0), none, some (aI v2), some (aI s)]) (fun s => h) (fun k s Hk H => okb_X12_dated_17 v0 v2 h K51 (fun v3q => k v3q) s HK51 (fun v3q H => Hk v3q H) H) FUEL v3 H
def j_X12_dated_51 (v3 : Int32)  (h : Hp) : Option (Int32 × Hp) :=
  some ((v3 / (10 : Int32)), h)
set_option maxRecDepth 20000 in
theorem okj_X12_dated_51 {r : (Int32 × Hp)} (v3 : Int32)  (h : Hp) (H : j_X12_dated_51 v3 h = some r) : Go M_X12_dated (some (aI r.1), r.2) 51 [none, none, none, some (aI v3)] [] h := by
  unfold j_X12_dated_51 at H
  refine go_iloadn dX12_dated_51 rfl ?_
  refine go_bipush (v := (10 : Int32)) dX12_dated_52 rfl ?_
  refine go_idiv dX12_dated_54 (by decide) ?_
  obtain rfl := Option.some.inj H
  exact go_ireturn dX12_dated_55 (tyI_int rfl)
def m_X12_dated (v0 : Nat) (v1 : Int32) (v2 : Int32) (h : Hp) : Option (Int32 × Hp) :=
  (pfI h v0 12 0 (0 : Int32)).bind fun hh1 => (rc hh1 v0 12 (m_X12_hand v0 v1 hh1)).bind fun x1 => if ¬ x1.1 = 0 then (l_X12_dated_17 v0 v2 x1.2 (fun a2_3 => j_X12_dated_51 a2_3 x1.2) (0 : Int32)) else some ((-1 : Int32), x1.2)
set_option maxRecDepth 20000 in
theorem ok_X12_dated {r : (Int32 × Hp)} {v0 : Nat} {v1 : Int32} {v2 : Int32} {h : Hp} (H : m_X12_dated v0 v1 v2 h = some r) : Ev M_X12_dated [aA v0, aI v1, aI v2] h (some (aI r.1), r.2) := by
  show Go M_X12_dated (some (aI r.1), r.2) 0 [some (aA v0), some (aI v1), some (aI v2), none] [] h
  unfold m_X12_dated at H
  refine go_aloadn dX12_dated_0 rfl ?_
  refine go_iconst (v := (0 : Int32)) dX12_dated_1 rfl ?_
  refine gm_putI fd_X12_60 (Or.inl rfl) dX12_dated_2 H (fun hh1 H => ?_)
  refine go_aloadn dX12_dated_5 rfl ?_
  refine go_iloadn dX12_dated_6 rfl ?_
  obtain ⟨c1, x1, ex1, H⟩ := gm_rc H
  refine go_callV (vs := [aI v1]) (stk := []) (o1 := (some (aI x1.1), x1.2)) mk_X12_hand sv_X12_dated_313 cl_X12 rfl dX12_dated_7 c1 rfl rfl (Nat.le_of_ble_eq_true rfl) (Nat.le_of_ble_eq_true rfl) (ok_X12_hand ex1) (show Go M_X12_dated (some (aI r.1), r.2) 10 [some (aA v0), some (aI v1), some (aI v2), none] [aI x1.1] x1.2 from ?_)
  refine go_if_ne (tgt := 15) dX12_dated_10 (by decide) (fun c2 => ?_) (fun c2 => ?_)
  · replace H := (gm_ite H).1 c2
    refine go_iconst (v := (0 : Int32)) dX12_dated_15 rfl ?_
    refine go_istoren (loc2 := [some (aA v0), some (aI v1), some (aI v2), some (aI (0 : Int32))]) dX12_dated_16 rfl (by decide) rfl ?_
    refine go_mask [true, false, true, true] (loc' := [some (aA v0), none, some (aI v2), some (aI (0 : Int32))]) rfl ?_
    refine okl_X12_dated_17 v0 v2 x1.2 (fun a2_3 => j_X12_dated_51 a2_3 x1.2) (0 : Int32) ?_ H
    · intro a2_3 H
      exact okj_X12_dated_51 a2_3 x1.2  H
  · replace H := (gm_ite H).2 c2
    refine go_iconst (v := (-1 : Int32)) dX12_dated_13 rfl ?_
    obtain rfl := Option.some.inj H
    exact go_ireturn dX12_dated_14 (tyI_int rfl)
/-! X11_shared -/
def m_X11_shared (v0 : Nat) (v1 : Int32) (v2 : Int32) (v3 : Int32) (v4 : Int32) (h : Hp) : Option Int32 :=
  (gfR h v0 11 0).bind fun x1 => (rc h x1 9 (m_X9_archiveAt x1 v1 h)).bind fun x2 => (nz x2).bind fun _ => if x2 = 0 then (some (-1 : Int32)) else (rc h x2 1 (m_X0_hasVersion x2 v2 v3 h)).bind fun x3 => if x3 = 0 then (some (-1 : Int32)) else (rc h x2 1 (m_X0_hasVersion x2 v2 v4 h)).bind fun x4 => if ¬ x4 = 0 then ((gfR h v0 11 3).bind fun x5 => (rc h x5 3 (m_X2_inBoth x5 x2 v2 v3 v4 h)).bind fun x6 => some x6) else some (-1 : Int32)
set_option maxRecDepth 20000 in
theorem ok_X11_shared {r : Int32} {v0 : Nat} {v1 : Int32} {v2 : Int32} {v3 : Int32} {v4 : Int32} {h : Hp} (H : m_X11_shared v0 v1 v2 v3 v4 h = some r) : Ev M_X11_shared [aA v0, aI v1, aI v2, aI v3, aI v4] h (some (aI r), h) := by
  show Go M_X11_shared (some (aI r), h) 0 [some (aA v0), some (aI v1), some (aI v2), some (aI v3), some (aI v4), none] [] h
  unfold m_X11_shared at H
  refine go_aloadn dX11_shared_0 rfl ?_
  refine gm_getR fd_X11_10 dX11_shared_1 H (fun x1 H => ?_)
  refine go_iloadn dX11_shared_4 rfl ?_
  obtain ⟨c1, x2, ex2, H⟩ := gm_rc H
  refine go_callV (vs := [aI v1]) (stk := []) (o1 := (some (aA x2), h)) mk_X9_archiveAt sv_X11_shared_86 cl_X9 rfl dX11_shared_5 c1 rfl rfl (Nat.le_of_ble_eq_true rfl) (Nat.le_of_ble_eq_true rfl) (ok_X9_archiveAt ex2) (show Go M_X11_shared (some (aI r), h) 8 [some (aA v0), some (aI v1), some (aI v2), some (aI v3), some (aI v4), none] [aA x2] h from ?_)
  refine go_astore (loc2 := [some (aA v0), some (aI v1), some (aI v2), some (aI v3), some (aI v4), some (aA x2)]) dX11_shared_8 (by decide) rfl ?_
  refine go_aload dX11_shared_10 rfl ?_
  obtain ⟨c3, H⟩ := gm_nz H
  refine go_ifnull (tgt := 36) dX11_shared_12 (by decide) c3 (fun c2 => ?_) (fun c2 => ?_)
  · replace H := (gm_ite H).1 c2
    refine go_iconst (v := (-1 : Int32)) dX11_shared_36 rfl ?_
    obtain rfl := Option.some.inj H
    exact go_ireturn dX11_shared_37 (tyI_int rfl)
  · replace H := (gm_ite H).2 c2
    refine go_aload dX11_shared_15 rfl ?_
    refine go_iloadn dX11_shared_17 rfl ?_
    refine go_iloadn dX11_shared_18 rfl ?_
    obtain ⟨c4, x3, ex3, H⟩ := gm_rc H
    refine go_callV (vs := [aI v2, aI v3]) (stk := []) (o1 := (some (aI x3), h)) mk_X0_hasVersion sv_X11_shared_140 cl_X0 rfl dX11_shared_19 c4 rfl rfl (Nat.le_of_ble_eq_true rfl) (Nat.le_of_ble_eq_true rfl) (ok_X0_hasVersion ex3) (show Go M_X11_shared (some (aI r), h) 22 [some (aA v0), some (aI v1), some (aI v2), some (aI v3), some (aI v4), some (aA x2)] [aI x3] h from ?_)
    refine go_if_eq (tgt := 36) dX11_shared_22 (by decide) (fun c5 => ?_) (fun c5 => ?_)
    · replace H := (gm_ite H).1 c5
      refine go_iconst (v := (-1 : Int32)) dX11_shared_36 rfl ?_
      obtain rfl := Option.some.inj H
      exact go_ireturn dX11_shared_37 (tyI_int rfl)
    · replace H := (gm_ite H).2 c5
      refine go_aload dX11_shared_25 rfl ?_
      refine go_iloadn dX11_shared_27 rfl ?_
      refine go_iload dX11_shared_28 rfl ?_
      obtain ⟨c6, x4, ex4, H⟩ := gm_rc H
      refine go_callV (vs := [aI v2, aI v4]) (stk := []) (o1 := (some (aI x4), h)) mk_X0_hasVersion sv_X11_shared_140 cl_X0 rfl dX11_shared_30 c6 rfl rfl (Nat.le_of_ble_eq_true rfl) (Nat.le_of_ble_eq_true rfl) (ok_X0_hasVersion ex4) (show Go M_X11_shared (some (aI r), h) 33 [some (aA v0), some (aI v1), some (aI v2), some (aI v3), some (aI v4), some (aA x2)] [aI x4] h from ?_)
      refine go_if_ne (tgt := 38) dX11_shared_33 (by decide) (fun c7 => ?_) (fun c7 => ?_)
      · replace H := (gm_ite H).1 c7
        refine go_aloadn dX11_shared_38 rfl ?_
        refine gm_getR fd_X11_30 dX11_shared_39 H (fun x5 H => ?_)
        refine go_aload dX11_shared_42 rfl ?_
        refine go_iloadn dX11_shared_44 rfl ?_
        refine go_iloadn dX11_shared_45 rfl ?_
        refine go_iload dX11_shared_46 rfl ?_
        obtain ⟨c8, x6, ex6, H⟩ := gm_rc H
        refine go_callV (vs := [aA x2, aI v2, aI v3, aI v4]) (stk := []) (o1 := (some (aI x6), h)) mk_X2_inBoth sv_X11_shared_223 cl_X2 rfl dX11_shared_48 c8 rfl rfl (Nat.le_of_ble_eq_true rfl) (Nat.le_of_ble_eq_true rfl) (ok_X2_inBoth ex6) (show Go M_X11_shared (some (aI r), h) 51 [some (aA v0), some (aI v1), some (aI v2), some (aI v3), some (aI v4), some (aA x2)] [aI x6] h from ?_)
        obtain rfl := Option.some.inj H
        exact go_ireturn dX11_shared_51 (tyI_int rfl)
      · replace H := (gm_ite H).2 c7
        refine go_iconst (v := (-1 : Int32)) dX11_shared_36 rfl ?_
        obtain rfl := Option.some.inj H
        exact go_ireturn dX11_shared_37 (tyI_int rfl)
/-! X12_shared -/
def j_X12_shared_77 (v0 : Nat) (v2 : Int32) (v3 : Int32) (v4 : Int32) (v6 : Int32) (s0 : Int32) (s1 : Int32) (h : Hp) (k : Int32 → Int32 → Option (Int32 × Hp)) : Option (Int32 × Hp) :=
  k (s0 + s1) (v6 + (1 : Int32))
set_option maxRecDepth 20000 in
theorem okj_X12_shared_77 {r : (Int32 × Hp)} (v0 : Nat) (v2 : Int32) (v3 : Int32) (v4 : Int32) (v6 : Int32) (s0 : Int32) (s1 : Int32) (h : Hp) (k : Int32 → Int32 → Option (Int32 × Hp)) (Hk : ∀ (v5q : Int32) (v6q : Int32), k v5q v6q = some r → Go M_X12_shared (some (aI r.1), r.2) 40 [some (aA v0), none, some (aI v2), some (aI v3), some (aI v4), some (aI v5q), some (aI v6q)] [] h) (H : j_X12_shared_77 v0 v2 v3 v4 v6 s0 s1 h k = some r) : Go M_X12_shared (some (aI r.1), r.2) 77 [some (aA v0), none, some (aI v2), some (aI v3), some (aI v4), none, some (aI v6)] [aI s1, aI s0] h := by
  unfold j_X12_shared_77 at H
  refine go_iadd dX12_shared_77 ?_
  refine go_istore (loc2 := [some (aA v0), none, some (aI v2), some (aI v3), some (aI v4), some (aI (s0 + s1)), some (aI v6)]) dX12_shared_78 (by decide) rfl ?_
  refine go_iinc (v := (v6 + (1 : Int32))) (loc2 := [some (aA v0), none, some (aI v2), some (aI v3), some (aI v4), some (aI (s0 + s1)), some (aI (v6 + (1 : Int32)))]) dX12_shared_80 rfl rfl (by decide) rfl ?_
  refine go_goto (tgt := 40) dX12_shared_83 (by decide) ?_
  exact Hk (s0 + s1) (v6 + (1 : Int32)) H
def b_X12_shared_40 (v0 : Nat) (v2 : Int32) (v3 : Int32) (v4 : Int32) (h : Hp) (k : Int32 → Int32 → Option (Int32 × Hp)) (v5 : Int32) (v6 : Int32) : Option (Int32 × Hp) :=
  (rc h v0 12 (m_X12_longOf v0 v2 v3 h)).bind fun x1 => if x1 ≤ v6 then (some (v5, h)) else (rc h v0 12 (m_X12_tokenAt v0 v2 v3 v6 h)).bind fun x2 => (rc h v0 12 (m_X12_placeOf v0 v2 v4 x2 h)).bind fun x3 => j_X12_shared_77 v0 v2 v3 v4 v6 v5 (if ¬ x3 = (-1 : Int32) then (1 : Int32) else (0 : Int32)) h k
set_option maxRecDepth 20000 in
theorem okb_X12_shared_40 {r : (Int32 × Hp)} (v0 : Nat) (v2 : Int32) (v3 : Int32) (v4 : Int32) (h : Hp) (k : Int32 → Int32 → Option (Int32 × Hp)) (v5 : Int32) (v6 : Int32) (Hk : ∀ (v5q : Int32) (v6q : Int32), k v5q v6q = some r → Go M_X12_shared (some (aI r.1), r.2) 40 [some (aA v0), none, some (aI v2), some (aI v3), some (aI v4), some (aI v5q), some (aI v6q)] [] h) (H : b_X12_shared_40 v0 v2 v3 v4 h k v5 v6 = some r) : Go M_X12_shared (some (aI r.1), r.2) 40 [some (aA v0), none, some (aI v2), some (aI v3), some (aI v4), some (aI v5), some (aI v6)] [] h := by
  unfold b_X12_shared_40 at H
  refine go_iload dX12_shared_40 rfl ?_
  refine go_aloadn dX12_shared_42 rfl ?_
  refine go_iloadn dX12_shared_43 rfl ?_
  refine go_iloadn dX12_shared_44 rfl ?_
  obtain ⟨c1, x1, ex1, H⟩ := gm_rc H
  refine go_callV (vs := [aI v2, aI v3]) (stk := [aI v6]) (o1 := (some (aI x1), h)) mk_X12_longOf sv_X12_shared_269 cl_X12 rfl dX12_shared_45 c1 rfl rfl (Nat.le_of_ble_eq_true rfl) (Nat.le_of_ble_eq_true rfl) (ok_X12_longOf ex1) (show Go M_X12_shared (some (aI r.1), r.2) 48 [some (aA v0), none, some (aI v2), some (aI v3), some (aI v4), some (aI v5), some (aI v6)] [aI x1, aI v6] h from ?_)
  refine go_icmp_ge (tgt := 86) dX12_shared_48 (by decide) (fun c2 => ?_) (fun c2 => ?_)
  · replace H := (gm_ite H).1 c2
    refine go_iload dX12_shared_86 rfl ?_
    obtain rfl := Option.some.inj H
    exact go_ireturn dX12_shared_88 (tyI_int rfl)
  · replace H := (gm_ite H).2 c2
    refine go_iload dX12_shared_51 rfl ?_
    refine go_aloadn dX12_shared_53 rfl ?_
    refine go_iloadn dX12_shared_54 rfl ?_
    refine go_iload dX12_shared_55 rfl ?_
    refine go_aloadn dX12_shared_57 rfl ?_
    refine go_iloadn dX12_shared_58 rfl ?_
    refine go_iloadn dX12_shared_59 rfl ?_
    refine go_iload dX12_shared_60 rfl ?_
    obtain ⟨c3, x2, ex2, H⟩ := gm_rc H
    refine go_callV (vs := [aI v2, aI v3, aI v6]) (stk := [aI v4, aI v2, aA v0, aI v5]) (o1 := (some (aI x2), h)) mk_X12_tokenAt sv_X12_shared_262 cl_X12 rfl dX12_shared_62 c3 rfl rfl (Nat.le_of_ble_eq_true rfl) (Nat.le_of_ble_eq_true rfl) (ok_X12_tokenAt ex2) (show Go M_X12_shared (some (aI r.1), r.2) 65 [some (aA v0), none, some (aI v2), some (aI v3), some (aI v4), some (aI v5), some (aI v6)] [aI x2, aI v4, aI v2, aA v0, aI v5] h from ?_)
    obtain ⟨c4, x3, ex3, H⟩ := gm_rc H
    refine go_callV (vs := [aI v2, aI v4, aI x2]) (stk := [aI v5]) (o1 := (some (aI x3), h)) mk_X12_placeOf sv_X12_shared_272 cl_X12 rfl dX12_shared_65 c4 rfl rfl (Nat.le_of_ble_eq_true rfl) (Nat.le_of_ble_eq_true rfl) (ok_X12_placeOf ex3) (show Go M_X12_shared (some (aI r.1), r.2) 68 [some (aA v0), none, some (aI v2), some (aI v3), some (aI v4), some (aI v5), some (aI v6)] [aI x3, aI v5] h from ?_)
    refine go_iconst (v := (-1 : Int32)) dX12_shared_68 rfl ?_
    refine go_icmp_ne (tgt := 76) dX12_shared_69 (by decide) (fun c5 => ?_) (fun c5 => ?_)
    · rw [if_pos c5] at H
      refine go_iconst (v := (1 : Int32)) dX12_shared_76 rfl ?_
      refine go_mask [true, false, true, true, true, false, true] (loc' := [some (aA v0), none, some (aI v2), some (aI v3), some (aI v4), none, some (aI v6)]) rfl ?_
      exact okj_X12_shared_77 v0 v2 v3 v4 v6 v5 (1 : Int32) h k Hk H
    · rw [if_neg c5] at H
      refine go_iconst (v := (0 : Int32)) dX12_shared_72 rfl ?_
      refine go_goto (tgt := 77) dX12_shared_73 (by decide) ?_
      refine go_mask [true, false, true, true, true, false, true] (loc' := [some (aA v0), none, some (aI v2), some (aI v3), some (aI v4), none, some (aI v6)]) rfl ?_
      exact okj_X12_shared_77 v0 v2 v3 v4 v6 v5 (0 : Int32) h k Hk H
def l_X12_shared_40 (v0 : Nat) (v2 : Int32) (v3 : Int32) (v4 : Int32) (h : Hp) (v5 : Int32) (v6 : Int32) : Option (Int32 × Hp) := loopK FUEL (fun (k : Int32 × Int32 → Option (Int32 × Hp)) (s : Int32 × Int32) => b_X12_shared_40 v0 v2 v3 v4 h (fun v5q v6q => k (v5q, v6q)) s.1 s.2) (v5, v6)
theorem okl_X12_shared_40 {r : (Int32 × Hp)} (v0 : Nat) (v2 : Int32) (v3 : Int32) (v4 : Int32) (h : Hp) (v5 : Int32) (v6 : Int32) (H : l_X12_shared_40 v0 v2 v3 v4 h v5 v6 = some r) : Go M_X12_shared (some (aI r.1), r.2) 40 [some (aA v0), none, some (aI v2), some (aI v3), some (aI v4), some (aI v5), some (aI v6)] [] h := by
  unfold l_X12_shared_40 at H
  exact go_loop (σ := Int32 × Int32) (body := (fun (k : Int32 × Int32 → Option (Int32 × Hp)) (s : Int32 × Int32) => b_X12_shared_40 v0 v2 v3 v4 h (fun v5q v6q => k (v5q, v6q)) s.1 s.2)) (fun s => [some (aA v0), none, some (aI v2), some (aI v3), some (aI v4), some (aI s.1), some (aI s.2)]) (fun s => h) (fun k s Hk H => okb_X12_shared_40 v0 v2 v3 v4 h (fun v5q v6q => k (v5q, v6q)) s.1 s.2  (fun v5q v6q H => Hk (v5q, v6q) H) H) FUEL (v5, v6) H
def m_X12_shared (v0 : Nat) (v1 : Int32) (v2 : Int32) (v3 : Int32) (v4 : Int32) (h : Hp) : Option (Int32 × Hp) :=
  (pfI h v0 12 0 (0 : Int32)).bind fun hh1 => (rc hh1 v0 12 (m_X12_hand v0 v1 hh1)).bind fun x1 => if x1.1 = 0 then (some ((-1 : Int32), x1.2)) else (rc x1.2 v0 12 (m_X12_isVersion v0 v2 v3 x1.2)).bind fun x2 => if x2 = 0 then (some ((-1 : Int32), x1.2)) else (rc x1.2 v0 12 (m_X12_isVersion v0 v2 v4 x1.2)).bind fun x3 => if ¬ x3 = 0 then (l_X12_shared_40 v0 v2 v3 v4 x1.2 (0 : Int32) (0 : Int32)) else some ((-1 : Int32), x1.2)
set_option maxRecDepth 20000 in
theorem ok_X12_shared {r : (Int32 × Hp)} {v0 : Nat} {v1 : Int32} {v2 : Int32} {v3 : Int32} {v4 : Int32} {h : Hp} (H : m_X12_shared v0 v1 v2 v3 v4 h = some r) : Ev M_X12_shared [aA v0, aI v1, aI v2, aI v3, aI v4] h (some (aI r.1), r.2) := by
  show Go M_X12_shared (some (aI r.1), r.2) 0 [some (aA v0), some (aI v1), some (aI v2), some (aI v3), some (aI v4), none, none] [] h
  unfold m_X12_shared at H
  refine go_aloadn dX12_shared_0 rfl ?_
  refine go_iconst (v := (0 : Int32)) dX12_shared_1 rfl ?_
  refine gm_putI fd_X12_60 (Or.inl rfl) dX12_shared_2 H (fun hh1 H => ?_)
  refine go_aloadn dX12_shared_5 rfl ?_
  refine go_iloadn dX12_shared_6 rfl ?_
  obtain ⟨c1, x1, ex1, H⟩ := gm_rc H
  refine go_callV (vs := [aI v1]) (stk := []) (o1 := (some (aI x1.1), x1.2)) mk_X12_hand sv_X12_shared_313 cl_X12 rfl dX12_shared_7 c1 rfl rfl (Nat.le_of_ble_eq_true rfl) (Nat.le_of_ble_eq_true rfl) (ok_X12_hand ex1) (show Go M_X12_shared (some (aI r.1), r.2) 10 [some (aA v0), some (aI v1), some (aI v2), some (aI v3), some (aI v4), none, none] [aI x1.1] x1.2 from ?_)
  refine go_if_eq (tgt := 32) dX12_shared_10 (by decide) (fun c2 => ?_) (fun c2 => ?_)
  · replace H := (gm_ite H).1 c2
    refine go_iconst (v := (-1 : Int32)) dX12_shared_32 rfl ?_
    obtain rfl := Option.some.inj H
    exact go_ireturn dX12_shared_33 (tyI_int rfl)
  · replace H := (gm_ite H).2 c2
    refine go_aloadn dX12_shared_13 rfl ?_
    refine go_iloadn dX12_shared_14 rfl ?_
    refine go_iloadn dX12_shared_15 rfl ?_
    obtain ⟨c3, x2, ex2, H⟩ := gm_rc H
    refine go_callV (vs := [aI v2, aI v3]) (stk := []) (o1 := (some (aI x2), x1.2)) mk_X12_isVersion sv_X12_shared_284 cl_X12 rfl dX12_shared_16 c3 rfl rfl (Nat.le_of_ble_eq_true rfl) (Nat.le_of_ble_eq_true rfl) (ok_X12_isVersion ex2) (show Go M_X12_shared (some (aI r.1), r.2) 19 [some (aA v0), some (aI v1), some (aI v2), some (aI v3), some (aI v4), none, none] [aI x2] x1.2 from ?_)
    refine go_if_eq (tgt := 32) dX12_shared_19 (by decide) (fun c4 => ?_) (fun c4 => ?_)
    · replace H := (gm_ite H).1 c4
      refine go_iconst (v := (-1 : Int32)) dX12_shared_32 rfl ?_
      obtain rfl := Option.some.inj H
      exact go_ireturn dX12_shared_33 (tyI_int rfl)
    · replace H := (gm_ite H).2 c4
      refine go_aloadn dX12_shared_22 rfl ?_
      refine go_iloadn dX12_shared_23 rfl ?_
      refine go_iload dX12_shared_24 rfl ?_
      obtain ⟨c5, x3, ex3, H⟩ := gm_rc H
      refine go_callV (vs := [aI v2, aI v4]) (stk := []) (o1 := (some (aI x3), x1.2)) mk_X12_isVersion sv_X12_shared_284 cl_X12 rfl dX12_shared_26 c5 rfl rfl (Nat.le_of_ble_eq_true rfl) (Nat.le_of_ble_eq_true rfl) (ok_X12_isVersion ex3) (show Go M_X12_shared (some (aI r.1), r.2) 29 [some (aA v0), some (aI v1), some (aI v2), some (aI v3), some (aI v4), none, none] [aI x3] x1.2 from ?_)
      refine go_if_ne (tgt := 34) dX12_shared_29 (by decide) (fun c6 => ?_) (fun c6 => ?_)
      · replace H := (gm_ite H).1 c6
        refine go_iconst (v := (0 : Int32)) dX12_shared_34 rfl ?_
        refine go_istore (loc2 := [some (aA v0), some (aI v1), some (aI v2), some (aI v3), some (aI v4), some (aI (0 : Int32)), none]) dX12_shared_35 (by decide) rfl ?_
        refine go_iconst (v := (0 : Int32)) dX12_shared_37 rfl ?_
        refine go_istore (loc2 := [some (aA v0), some (aI v1), some (aI v2), some (aI v3), some (aI v4), some (aI (0 : Int32)), some (aI (0 : Int32))]) dX12_shared_38 (by decide) rfl ?_
        refine go_mask [true, false, true, true, true, true, true] (loc' := [some (aA v0), none, some (aI v2), some (aI v3), some (aI v4), some (aI (0 : Int32)), some (aI (0 : Int32))]) rfl ?_
        exact okl_X12_shared_40 v0 v2 v3 v4 x1.2 (0 : Int32) (0 : Int32) H
      · replace H := (gm_ite H).2 c6
        refine go_iconst (v := (-1 : Int32)) dX12_shared_32 rfl ?_
        obtain rfl := Option.some.inj H
        exact go_ireturn dX12_shared_33 (tyI_int rfl)
/-! X2_longestRow -/
def b_X2_longestRow_13 (v0 : Nat) (v1 : Nat) (v2 : Int32) (v3 : Int32) (v4 : Int32) (v5 : Int32) (v6 : Int32) (K36 : Hp → Option (Int32 × Hp)) (k : Int32 → Hp → Option (Int32 × Hp)) (v7 : Int32) (h : Hp) : Option (Int32 × Hp) :=
  if v6 < v7 then K36 h else (gfR h v0 3 0).bind fun x1 => (m_X5_set x1 v7 (0 : Int32) h).bind fun x2 => k (v7 + (1 : Int32)) x2
set_option maxRecDepth 20000 in
theorem okb_X2_longestRow_13 {r : (Int32 × Hp)} (v0 : Nat) (v1 : Nat) (v2 : Int32) (v3 : Int32) (v4 : Int32) (v5 : Int32) (v6 : Int32) (K36 : Hp → Option (Int32 × Hp)) (k : Int32 → Hp → Option (Int32 × Hp)) (v7 : Int32) (h : Hp) (HK36 : ∀   (hq : Hp), K36 hq = some r → Go M_X2_longestRow (some (aI r.1), r.2) 36 [some (aA v0), some (aA v1), some (aI v2), some (aI v3), some (aI v4), some (aI v5), some (aI v6), none, none, none, none, none, none] [] hq) (Hk : ∀ (v7q : Int32) (hq : Hp), k v7q hq = some r → Go M_X2_longestRow (some (aI r.1), r.2) 13 [some (aA v0), some (aA v1), some (aI v2), some (aI v3), some (aI v4), some (aI v5), some (aI v6), some (aI v7q), none, none, none, none, none] [] hq) (H : b_X2_longestRow_13 v0 v1 v2 v3 v4 v5 v6 K36 k v7 h = some r) : Go M_X2_longestRow (some (aI r.1), r.2) 13 [some (aA v0), some (aA v1), some (aI v2), some (aI v3), some (aI v4), some (aI v5), some (aI v6), some (aI v7), none, none, none, none, none] [] h := by
  unfold b_X2_longestRow_13 at H
  refine go_iload dX2_longestRow_13 rfl ?_
  refine go_iload dX2_longestRow_15 rfl ?_
  refine go_icmp_gt (tgt := 36) dX2_longestRow_17 (by decide) (fun c1 => ?_) (fun c1 => ?_)
  · replace H := (gm_ite H).1 c1
    refine go_mask [true, true, true, true, true, true, true, false, false, false, false, false, false] (loc' := [some (aA v0), some (aA v1), some (aI v2), some (aI v3), some (aI v4), some (aI v5), some (aI v6), none, none, none, none, none, none]) rfl ?_
    exact HK36 h H
  · replace H := (gm_ite H).2 c1
    refine go_aloadn dX2_longestRow_20 rfl ?_
    refine gm_getR fd_X2_11 dX2_longestRow_21 H (fun x1 H => ?_)
    refine go_iload dX2_longestRow_24 rfl ?_
    refine go_iconst (v := (0 : Int32)) dX2_longestRow_26 rfl ?_
    obtain ⟨x2, ex2, H⟩ := bind_some H
    refine go_callS (vs := [aA x1, aI v7, aI (0 : Int32)]) (stk := []) (o1 := (none, x2)) mk_X5_set ss_X2_longestRow_98 dX2_longestRow_27 rfl rfl (Nat.le_of_ble_eq_true rfl) (Nat.le_of_ble_eq_true rfl) (ok_X5_set ex2) (show Go M_X2_longestRow (some (aI r.1), r.2) 30 [some (aA v0), some (aA v1), some (aI v2), some (aI v3), some (aI v4), some (aI v5), some (aI v6), some (aI v7), none, none, none, none, none] [] x2 from ?_)
    refine go_iinc (v := (v7 + (1 : Int32))) (loc2 := [some (aA v0), some (aA v1), some (aI v2), some (aI v3), some (aI v4), some (aI v5), some (aI v6), some (aI (v7 + (1 : Int32))), none, none, none, none, none]) dX2_longestRow_30 rfl rfl (by decide) rfl ?_
    refine go_goto (tgt := 13) dX2_longestRow_33 (by decide) ?_
    exact Hk (v7 + (1 : Int32)) x2 H
def l_X2_longestRow_13 (v0 : Nat) (v1 : Nat) (v2 : Int32) (v3 : Int32) (v4 : Int32) (v5 : Int32) (v6 : Int32) (K36 : Hp → Option (Int32 × Hp)) (v7 : Int32) (h : Hp) : Option (Int32 × Hp) := loopK FUEL (fun (k : Int32 × Hp → Option (Int32 × Hp)) (s : Int32 × Hp) => b_X2_longestRow_13 v0 v1 v2 v3 v4 v5 v6 K36 (fun v7q hq => k (v7q, hq)) s.1 s.2) (v7, h)
theorem okl_X2_longestRow_13 {r : (Int32 × Hp)} (v0 : Nat) (v1 : Nat) (v2 : Int32) (v3 : Int32) (v4 : Int32) (v5 : Int32) (v6 : Int32) (K36 : Hp → Option (Int32 × Hp)) (v7 : Int32) (h : Hp) (HK36 : ∀   (hq : Hp), K36 hq = some r → Go M_X2_longestRow (some (aI r.1), r.2) 36 [some (aA v0), some (aA v1), some (aI v2), some (aI v3), some (aI v4), some (aI v5), some (aI v6), none, none, none, none, none, none] [] hq) (H : l_X2_longestRow_13 v0 v1 v2 v3 v4 v5 v6 K36 v7 h = some r) : Go M_X2_longestRow (some (aI r.1), r.2) 13 [some (aA v0), some (aA v1), some (aI v2), some (aI v3), some (aI v4), some (aI v5), some (aI v6), some (aI v7), none, none, none, none, none] [] h := by
  unfold l_X2_longestRow_13 at H
  exact go_loop (σ := Int32 × Hp) (body := (fun (k : Int32 × Hp → Option (Int32 × Hp)) (s : Int32 × Hp) => b_X2_longestRow_13 v0 v1 v2 v3 v4 v5 v6 K36 (fun v7q hq => k (v7q, hq)) s.1 s.2)) (fun s => [some (aA v0), some (aA v1), some (aI v2), some (aI v3), some (aI v4), some (aI v5), some (aI v6), some (aI s.1), none, none, none, none, none]) (fun s => s.2) (fun k s Hk H => okb_X2_longestRow_13 v0 v1 v2 v3 v4 v5 v6 K36 (fun v7q hq => k (v7q, hq)) s.1 s.2 HK36 (fun v7q hq H => Hk (v7q, hq) H) H) FUEL (v7, h) H
def j_X2_longestRow_142 (v0 : Nat) (v1 : Nat) (v2 : Int32) (v3 : Int32) (v4 : Int32) (v5 : Int32) (v6 : Int32) (v7 : Int32) (v8 : Int32) (v10 : Int32) (v11 : Int32) (s0 : Nat) (s1 : Int32) (s2 : Int32) (h : Hp) (K155 : Hp → Option (Int32 × Hp)) (k : Int32 → Int32 → Hp → Option (Int32 × Hp)) : Option (Int32 × Hp) :=
  (m_X5_set s0 s1 s2 h).bind fun x1 => k v11 (v10 + (1 : Int32)) x1
set_option maxRecDepth 20000 in
theorem okj_X2_longestRow_142 {r : (Int32 × Hp)} (v0 : Nat) (v1 : Nat) (v2 : Int32) (v3 : Int32) (v4 : Int32) (v5 : Int32) (v6 : Int32) (v7 : Int32) (v8 : Int32) (v10 : Int32) (v11 : Int32) (s0 : Nat) (s1 : Int32) (s2 : Int32) (h : Hp) (K155 : Hp → Option (Int32 × Hp)) (k : Int32 → Int32 → Hp → Option (Int32 × Hp)) (HK155 : ∀   (hq : Hp), K155 hq = some r → Go M_X2_longestRow (some (aI r.1), r.2) 155 [some (aA v0), some (aA v1), some (aI v2), some (aI v3), some (aI v4), some (aI v5), some (aI v6), some (aI v7), none, none, none, none, none] [] hq) (Hk : ∀ (v9q : Int32) (v10q : Int32) (hq : Hp), k v9q v10q hq = some r → Go M_X2_longestRow (some (aI r.1), r.2) 66 [some (aA v0), some (aA v1), some (aI v2), some (aI v3), some (aI v4), some (aI v5), some (aI v6), some (aI v7), some (aI v8), some (aI v9q), some (aI v10q), none, none] [] hq) (H : j_X2_longestRow_142 v0 v1 v2 v3 v4 v5 v6 v7 v8 v10 v11 s0 s1 s2 h K155 k = some r) : Go M_X2_longestRow (some (aI r.1), r.2) 142 [some (aA v0), some (aA v1), some (aI v2), some (aI v3), some (aI v4), some (aI v5), some (aI v6), some (aI v7), some (aI v8), none, some (aI v10), some (aI v11), none] [aI s2, aI s1, aA s0] h := by
  unfold j_X2_longestRow_142 at H
  obtain ⟨x1, ex1, H⟩ := bind_some H
  refine go_callS (vs := [aA s0, aI s1, aI s2]) (stk := []) (o1 := (none, x1)) mk_X5_set ss_X2_longestRow_98 dX2_longestRow_142 rfl rfl (Nat.le_of_ble_eq_true rfl) (Nat.le_of_ble_eq_true rfl) (ok_X5_set ex1) (show Go M_X2_longestRow (some (aI r.1), r.2) 145 [some (aA v0), some (aA v1), some (aI v2), some (aI v3), some (aI v4), some (aI v5), some (aI v6), some (aI v7), some (aI v8), none, some (aI v10), some (aI v11), none] [] x1 from ?_)
  refine go_iload dX2_longestRow_145 rfl ?_
  refine go_istore (loc2 := [some (aA v0), some (aA v1), some (aI v2), some (aI v3), some (aI v4), some (aI v5), some (aI v6), some (aI v7), some (aI v8), some (aI v11), some (aI v10), some (aI v11), none]) dX2_longestRow_147 (by decide) rfl ?_
  refine go_iinc (v := (v10 + (1 : Int32))) (loc2 := [some (aA v0), some (aA v1), some (aI v2), some (aI v3), some (aI v4), some (aI v5), some (aI v6), some (aI v7), some (aI v8), some (aI v11), some (aI (v10 + (1 : Int32))), some (aI v11), none]) dX2_longestRow_149 rfl rfl (by decide) rfl ?_
  refine go_goto (tgt := 66) dX2_longestRow_152 (by decide) ?_
  refine go_mask [true, true, true, true, true, true, true, true, true, true, true, false, false] (loc' := [some (aA v0), some (aA v1), some (aI v2), some (aI v3), some (aI v4), some (aI v5), some (aI v6), some (aI v7), some (aI v8), some (aI v11), some (aI (v10 + (1 : Int32))), none, none]) rfl ?_
  exact Hk v11 (v10 + (1 : Int32)) x1 H
def j_X2_longestRow_106 (v0 : Nat) (v1 : Nat) (v2 : Int32) (v3 : Int32) (v4 : Int32) (v5 : Int32) (v6 : Int32) (v7 : Int32) (v8 : Int32) (v9 : Int32) (v10 : Int32) (v11 : Int32) (s0 : Int32) (h : Hp) (K155 : Hp → Option (Int32 × Hp)) (k : Int32 → Int32 → Hp → Option (Int32 × Hp)) : Option (Int32 × Hp) :=
  (gfR h v0 3 0).bind fun x1 => if s0 = 0 then ((gfR h v0 3 0).bind fun x2 => (m_X5_at x2 (v10 - (1 : Int32)) h).bind fun x3 => (m_J9_max_7cf53 v11 x3 h).bind fun x4 => j_X2_longestRow_142 v0 v1 v2 v3 v4 v5 v6 v7 v8 v10 v11 x1 v10 x4 h K155 k) else j_X2_longestRow_142 v0 v1 v2 v3 v4 v5 v6 v7 v8 v10 v11 x1 v10 (v9 + (1 : Int32)) h K155 k
set_option maxRecDepth 20000 in
theorem okj_X2_longestRow_106 {r : (Int32 × Hp)} (v0 : Nat) (v1 : Nat) (v2 : Int32) (v3 : Int32) (v4 : Int32) (v5 : Int32) (v6 : Int32) (v7 : Int32) (v8 : Int32) (v9 : Int32) (v10 : Int32) (v11 : Int32) (s0 : Int32) (h : Hp) (K155 : Hp → Option (Int32 × Hp)) (k : Int32 → Int32 → Hp → Option (Int32 × Hp)) (HK155 : ∀   (hq : Hp), K155 hq = some r → Go M_X2_longestRow (some (aI r.1), r.2) 155 [some (aA v0), some (aA v1), some (aI v2), some (aI v3), some (aI v4), some (aI v5), some (aI v6), some (aI v7), none, none, none, none, none] [] hq) (Hk : ∀ (v9q : Int32) (v10q : Int32) (hq : Hp), k v9q v10q hq = some r → Go M_X2_longestRow (some (aI r.1), r.2) 66 [some (aA v0), some (aA v1), some (aI v2), some (aI v3), some (aI v4), some (aI v5), some (aI v6), some (aI v7), some (aI v8), some (aI v9q), some (aI v10q), none, none] [] hq) (H : j_X2_longestRow_106 v0 v1 v2 v3 v4 v5 v6 v7 v8 v9 v10 v11 s0 h K155 k = some r) : Go M_X2_longestRow (some (aI r.1), r.2) 106 [some (aA v0), some (aA v1), some (aI v2), some (aI v3), some (aI v4), some (aI v5), some (aI v6), some (aI v7), some (aI v8), some (aI v9), some (aI v10), some (aI v11), none] [aI s0] h := by
  unfold j_X2_longestRow_106 at H
  refine go_istore (loc2 := [some (aA v0), some (aA v1), some (aI v2), some (aI v3), some (aI v4), some (aI v5), some (aI v6), some (aI v7), some (aI v8), some (aI v9), some (aI v10), some (aI v11), some (aI s0)]) dX2_longestRow_106 (by decide) rfl ?_
  refine go_aloadn dX2_longestRow_108 rfl ?_
  refine gm_getR fd_X2_11 dX2_longestRow_109 H (fun x1 H => ?_)
  refine go_iload dX2_longestRow_112 rfl ?_
  refine go_iload dX2_longestRow_114 rfl ?_
  refine go_if_eq (tgt := 126) dX2_longestRow_116 (by decide) (fun c1 => ?_) (fun c1 => ?_)
  · replace H := (gm_ite H).1 c1
    refine go_iload dX2_longestRow_126 rfl ?_
    refine go_aloadn dX2_longestRow_128 rfl ?_
    refine gm_getR fd_X2_11 dX2_longestRow_129 H (fun x2 H => ?_)
    refine go_iload dX2_longestRow_132 rfl ?_
    refine go_iconst (v := (1 : Int32)) dX2_longestRow_134 rfl ?_
    refine go_isub dX2_longestRow_135 ?_
    obtain ⟨x3, ex3, H⟩ := bind_some H
    refine go_callS (vs := [aA x2, aI (v10 - (1 : Int32))]) (stk := [aI v11, aI v10, aA x1]) (o1 := (some (aI x3), h)) mk_X5_at ss_X2_longestRow_102 dX2_longestRow_136 rfl rfl (Nat.le_of_ble_eq_true rfl) (Nat.le_of_ble_eq_true rfl) (ok_X5_at ex3) (show Go M_X2_longestRow (some (aI r.1), r.2) 139 [some (aA v0), some (aA v1), some (aI v2), some (aI v3), some (aI v4), some (aI v5), some (aI v6), some (aI v7), some (aI v8), some (aI v9), some (aI v10), some (aI v11), some (aI s0)] [aI x3, aI v11, aI v10, aA x1] h from ?_)
    obtain ⟨x4, ex4, H⟩ := bind_some H
    refine go_callS (vs := [aI v11, aI x3]) (stk := [aI v10, aA x1]) (o1 := (some (aI x4), h)) mk_J9_max_7cf53 ss_X2_longestRow_65 dX2_longestRow_139 rfl rfl (Nat.le_of_ble_eq_true rfl) (Nat.le_of_ble_eq_true rfl) (ok_J9_max_7cf53 ex4) (show Go M_X2_longestRow (some (aI r.1), r.2) 142 [some (aA v0), some (aA v1), some (aI v2), some (aI v3), some (aI v4), some (aI v5), some (aI v6), some (aI v7), some (aI v8), some (aI v9), some (aI v10), some (aI v11), some (aI s0)] [aI x4, aI v10, aA x1] h from ?_)
    refine go_mask [true, true, true, true, true, true, true, true, true, false, true, true, false] (loc' := [some (aA v0), some (aA v1), some (aI v2), some (aI v3), some (aI v4), some (aI v5), some (aI v6), some (aI v7), some (aI v8), none, some (aI v10), some (aI v11), none]) rfl ?_
    exact okj_X2_longestRow_142 v0 v1 v2 v3 v4 v5 v6 v7 v8 v10 v11 x1 v10 x4 h K155 k HK155 Hk H
  · replace H := (gm_ite H).2 c1
    refine go_iload dX2_longestRow_119 rfl ?_
    refine go_iconst (v := (1 : Int32)) dX2_longestRow_121 rfl ?_
    refine go_iadd dX2_longestRow_122 ?_
    refine go_goto (tgt := 142) dX2_longestRow_123 (by decide) ?_
    refine go_mask [true, true, true, true, true, true, true, true, true, false, true, true, false] (loc' := [some (aA v0), some (aA v1), some (aI v2), some (aI v3), some (aI v4), some (aI v5), some (aI v6), some (aI v7), some (aI v8), none, some (aI v10), some (aI v11), none]) rfl ?_
    exact okj_X2_longestRow_142 v0 v1 v2 v3 v4 v5 v6 v7 v8 v10 v11 x1 v10 (v9 + (1 : Int32)) h K155 k HK155 Hk H
def b_X2_longestRow_66 (v0 : Nat) (v1 : Nat) (v2 : Int32) (v3 : Int32) (v4 : Int32) (v5 : Int32) (v6 : Int32) (v7 : Int32) (v8 : Int32) (K155 : Hp → Option (Int32 × Hp)) (k : Int32 → Int32 → Hp → Option (Int32 × Hp)) (v9 : Int32) (v10 : Int32) (h : Hp) : Option (Int32 × Hp) :=
  if v6 < v10 then K155 h else (gfR h v0 3 0).bind fun x1 => (m_X5_at x1 v10 h).bind fun x2 => (rc h v1 1 (m_X0_spellingAt v1 v4 v5 (v10 - (1 : Int32)) h)).bind fun x3 => j_X2_longestRow_106 v0 v1 v2 v3 v4 v5 v6 v7 v8 v9 v10 x2 (if ¬ x3 = v8 then (0 : Int32) else (1 : Int32)) h K155 k
set_option maxRecDepth 20000 in
theorem okb_X2_longestRow_66 {r : (Int32 × Hp)} (v0 : Nat) (v1 : Nat) (v2 : Int32) (v3 : Int32) (v4 : Int32) (v5 : Int32) (v6 : Int32) (v7 : Int32) (v8 : Int32) (K155 : Hp → Option (Int32 × Hp)) (k : Int32 → Int32 → Hp → Option (Int32 × Hp)) (v9 : Int32) (v10 : Int32) (h : Hp) (HK155 : ∀   (hq : Hp), K155 hq = some r → Go M_X2_longestRow (some (aI r.1), r.2) 155 [some (aA v0), some (aA v1), some (aI v2), some (aI v3), some (aI v4), some (aI v5), some (aI v6), some (aI v7), none, none, none, none, none] [] hq) (Hk : ∀ (v9q : Int32) (v10q : Int32) (hq : Hp), k v9q v10q hq = some r → Go M_X2_longestRow (some (aI r.1), r.2) 66 [some (aA v0), some (aA v1), some (aI v2), some (aI v3), some (aI v4), some (aI v5), some (aI v6), some (aI v7), some (aI v8), some (aI v9q), some (aI v10q), none, none] [] hq) (H : b_X2_longestRow_66 v0 v1 v2 v3 v4 v5 v6 v7 v8 K155 k v9 v10 h = some r) : Go M_X2_longestRow (some (aI r.1), r.2) 66 [some (aA v0), some (aA v1), some (aI v2), some (aI v3), some (aI v4), some (aI v5), some (aI v6), some (aI v7), some (aI v8), some (aI v9), some (aI v10), none, none] [] h := by
  unfold b_X2_longestRow_66 at H
  refine go_iload dX2_longestRow_66 rfl ?_
  refine go_iload dX2_longestRow_68 rfl ?_
  refine go_icmp_gt (tgt := 155) dX2_longestRow_70 (by decide) (fun c1 => ?_) (fun c1 => ?_)
  · replace H := (gm_ite H).1 c1
    refine go_mask [true, true, true, true, true, true, true, true, false, false, false, false, false] (loc' := [some (aA v0), some (aA v1), some (aI v2), some (aI v3), some (aI v4), some (aI v5), some (aI v6), some (aI v7), none, none, none, none, none]) rfl ?_
    exact HK155 h H
  · replace H := (gm_ite H).2 c1
    refine go_aloadn dX2_longestRow_73 rfl ?_
    refine gm_getR fd_X2_11 dX2_longestRow_74 H (fun x1 H => ?_)
    refine go_iload dX2_longestRow_77 rfl ?_
    obtain ⟨x2, ex2, H⟩ := bind_some H
    refine go_callS (vs := [aA x1, aI v10]) (stk := []) (o1 := (some (aI x2), h)) mk_X5_at ss_X2_longestRow_102 dX2_longestRow_79 rfl rfl (Nat.le_of_ble_eq_true rfl) (Nat.le_of_ble_eq_true rfl) (ok_X5_at ex2) (show Go M_X2_longestRow (some (aI r.1), r.2) 82 [some (aA v0), some (aA v1), some (aI v2), some (aI v3), some (aI v4), some (aI v5), some (aI v6), some (aI v7), some (aI v8), some (aI v9), some (aI v10), none, none] [aI x2] h from ?_)
    refine go_istore (loc2 := [some (aA v0), some (aA v1), some (aI v2), some (aI v3), some (aI v4), some (aI v5), some (aI v6), some (aI v7), some (aI v8), some (aI v9), some (aI v10), some (aI x2), none]) dX2_longestRow_82 (by decide) rfl ?_
    refine go_aloadn dX2_longestRow_84 rfl ?_
    refine go_iload dX2_longestRow_85 rfl ?_
    refine go_iload dX2_longestRow_87 rfl ?_
    refine go_iload dX2_longestRow_89 rfl ?_
    refine go_iconst (v := (1 : Int32)) dX2_longestRow_91 rfl ?_
    refine go_isub dX2_longestRow_92 ?_
    obtain ⟨c3, x3, ex3, H⟩ := gm_rc H
    refine go_callV (vs := [aI v4, aI v5, aI (v10 - (1 : Int32))]) (stk := []) (o1 := (some (aI x3), h)) mk_X0_spellingAt sv_X2_longestRow_51 cl_X0 rfl dX2_longestRow_93 c3 rfl rfl (Nat.le_of_ble_eq_true rfl) (Nat.le_of_ble_eq_true rfl) (ok_X0_spellingAt ex3) (show Go M_X2_longestRow (some (aI r.1), r.2) 96 [some (aA v0), some (aA v1), some (aI v2), some (aI v3), some (aI v4), some (aI v5), some (aI v6), some (aI v7), some (aI v8), some (aI v9), some (aI v10), some (aI x2), none] [aI x3] h from ?_)
    refine go_iload dX2_longestRow_96 rfl ?_
    refine go_icmp_ne (tgt := 105) dX2_longestRow_98 (by decide) (fun c4 => ?_) (fun c4 => ?_)
    · rw [if_pos c4] at H
      refine go_iconst (v := (0 : Int32)) dX2_longestRow_105 rfl ?_
      exact okj_X2_longestRow_106 v0 v1 v2 v3 v4 v5 v6 v7 v8 v9 v10 x2 (0 : Int32) h K155 k HK155 Hk H
    · rw [if_neg c4] at H
      refine go_iconst (v := (1 : Int32)) dX2_longestRow_101 rfl ?_
      refine go_goto (tgt := 106) dX2_longestRow_102 (by decide) ?_
      exact okj_X2_longestRow_106 v0 v1 v2 v3 v4 v5 v6 v7 v8 v9 v10 x2 (1 : Int32) h K155 k HK155 Hk H
def l_X2_longestRow_66 (v0 : Nat) (v1 : Nat) (v2 : Int32) (v3 : Int32) (v4 : Int32) (v5 : Int32) (v6 : Int32) (v7 : Int32) (v8 : Int32) (K155 : Hp → Option (Int32 × Hp)) (v9 : Int32) (v10 : Int32) (h : Hp) : Option (Int32 × Hp) := loopK FUEL (fun (k : Int32 × Int32 × Hp → Option (Int32 × Hp)) (s : Int32 × Int32 × Hp) => b_X2_longestRow_66 v0 v1 v2 v3 v4 v5 v6 v7 v8 K155 (fun v9q v10q hq => k (v9q, v10q, hq)) s.1 s.2.1 s.2.2) (v9, v10, h)
theorem okl_X2_longestRow_66 {r : (Int32 × Hp)} (v0 : Nat) (v1 : Nat) (v2 : Int32) (v3 : Int32) (v4 : Int32) (v5 : Int32) (v6 : Int32) (v7 : Int32) (v8 : Int32) (K155 : Hp → Option (Int32 × Hp)) (v9 : Int32) (v10 : Int32) (h : Hp) (HK155 : ∀   (hq : Hp), K155 hq = some r → Go M_X2_longestRow (some (aI r.1), r.2) 155 [some (aA v0), some (aA v1), some (aI v2), some (aI v3), some (aI v4), some (aI v5), some (aI v6), some (aI v7), none, none, none, none, none] [] hq) (H : l_X2_longestRow_66 v0 v1 v2 v3 v4 v5 v6 v7 v8 K155 v9 v10 h = some r) : Go M_X2_longestRow (some (aI r.1), r.2) 66 [some (aA v0), some (aA v1), some (aI v2), some (aI v3), some (aI v4), some (aI v5), some (aI v6), some (aI v7), some (aI v8), some (aI v9), some (aI v10), none, none] [] h := by
  unfold l_X2_longestRow_66 at H
  exact go_loop (σ := Int32 × Int32 × Hp) (body := (fun (k : Int32 × Int32 × Hp → Option (Int32 × Hp)) (s : Int32 × Int32 × Hp) => b_X2_longestRow_66 v0 v1 v2 v3 v4 v5 v6 v7 v8 K155 (fun v9q v10q hq => k (v9q, v10q, hq)) s.1 s.2.1 s.2.2)) (fun s => [some (aA v0), some (aA v1), some (aI v2), some (aI v3), some (aI v4), some (aI v5), some (aI v6), some (aI v7), some (aI v8), some (aI s.1), some (aI s.2.1), none, none]) (fun s => s.2.2) (fun k s Hk H => okb_X2_longestRow_66 v0 v1 v2 v3 v4 v5 v6 v7 v8 K155 (fun v9q v10q hq => k (v9q, v10q, hq)) s.1 s.2.1 s.2.2 HK155 (fun v9q v10q hq H => Hk (v9q, v10q, hq) H) H) FUEL (v9, v10, h) H
def j_X2_longestRow_155 (v0 : Nat) (v1 : Nat) (v2 : Int32) (v3 : Int32) (v4 : Int32) (v5 : Int32) (v6 : Int32) (v7 : Int32)  (h : Hp) (K161 : Hp → Option (Int32 × Hp)) (k : Int32 → Hp → Option (Int32 × Hp)) : Option (Int32 × Hp) :=
  k (v7 + (1 : Int32)) h
set_option maxRecDepth 20000 in
theorem okj_X2_longestRow_155 {r : (Int32 × Hp)} (v0 : Nat) (v1 : Nat) (v2 : Int32) (v3 : Int32) (v4 : Int32) (v5 : Int32) (v6 : Int32) (v7 : Int32)  (h : Hp) (K161 : Hp → Option (Int32 × Hp)) (k : Int32 → Hp → Option (Int32 × Hp)) (HK161 : ∀   (hq : Hp), K161 hq = some r → Go M_X2_longestRow (some (aI r.1), r.2) 161 [some (aA v0), none, none, none, none, none, some (aI v6), none, none, none, none, none, none] [] hq) (Hk : ∀ (v7q : Int32) (hq : Hp), k v7q hq = some r → Go M_X2_longestRow (some (aI r.1), r.2) 39 [some (aA v0), some (aA v1), some (aI v2), some (aI v3), some (aI v4), some (aI v5), some (aI v6), some (aI v7q), none, none, none, none, none] [] hq) (H : j_X2_longestRow_155 v0 v1 v2 v3 v4 v5 v6 v7 h K161 k = some r) : Go M_X2_longestRow (some (aI r.1), r.2) 155 [some (aA v0), some (aA v1), some (aI v2), some (aI v3), some (aI v4), some (aI v5), some (aI v6), some (aI v7), none, none, none, none, none] [] h := by
  unfold j_X2_longestRow_155 at H
  refine go_iinc (v := (v7 + (1 : Int32))) (loc2 := [some (aA v0), some (aA v1), some (aI v2), some (aI v3), some (aI v4), some (aI v5), some (aI v6), some (aI (v7 + (1 : Int32))), none, none, none, none, none]) dX2_longestRow_155 rfl rfl (by decide) rfl ?_
  refine go_goto (tgt := 39) dX2_longestRow_158 (by decide) ?_
  exact Hk (v7 + (1 : Int32)) h H
def b_X2_longestRow_39 (v0 : Nat) (v1 : Nat) (v2 : Int32) (v3 : Int32) (v4 : Int32) (v5 : Int32) (v6 : Int32) (K161 : Hp → Option (Int32 × Hp)) (k : Int32 → Hp → Option (Int32 × Hp)) (v7 : Int32) (h : Hp) : Option (Int32 × Hp) :=
  (rc h v1 1 (m_X0_lengthOf v1 v2 v3 h)).bind fun x1 => if x1 ≤ v7 then K161 h else (rc h v1 1 (m_X0_spellingAt v1 v2 v3 v7 h)).bind fun x2 => l_X2_longestRow_66 v0 v1 v2 v3 v4 v5 v6 v7 x2 (fun hz3 => j_X2_longestRow_155 v0 v1 v2 v3 v4 v5 v6 v7 hz3 K161 k) (0 : Int32) (1 : Int32) h
set_option maxRecDepth 20000 in
theorem okb_X2_longestRow_39 {r : (Int32 × Hp)} (v0 : Nat) (v1 : Nat) (v2 : Int32) (v3 : Int32) (v4 : Int32) (v5 : Int32) (v6 : Int32) (K161 : Hp → Option (Int32 × Hp)) (k : Int32 → Hp → Option (Int32 × Hp)) (v7 : Int32) (h : Hp) (HK161 : ∀   (hq : Hp), K161 hq = some r → Go M_X2_longestRow (some (aI r.1), r.2) 161 [some (aA v0), none, none, none, none, none, some (aI v6), none, none, none, none, none, none] [] hq) (Hk : ∀ (v7q : Int32) (hq : Hp), k v7q hq = some r → Go M_X2_longestRow (some (aI r.1), r.2) 39 [some (aA v0), some (aA v1), some (aI v2), some (aI v3), some (aI v4), some (aI v5), some (aI v6), some (aI v7q), none, none, none, none, none] [] hq) (H : b_X2_longestRow_39 v0 v1 v2 v3 v4 v5 v6 K161 k v7 h = some r) : Go M_X2_longestRow (some (aI r.1), r.2) 39 [some (aA v0), some (aA v1), some (aI v2), some (aI v3), some (aI v4), some (aI v5), some (aI v6), some (aI v7), none, none, none, none, none] [] h := by
  unfold b_X2_longestRow_39 at H
  refine go_iload dX2_longestRow_39 rfl ?_
  refine go_aloadn dX2_longestRow_41 rfl ?_
  refine go_iloadn dX2_longestRow_42 rfl ?_
  refine go_iloadn dX2_longestRow_43 rfl ?_
  obtain ⟨c1, x1, ex1, H⟩ := gm_rc H
  refine go_callV (vs := [aI v2, aI v3]) (stk := [aI v7]) (o1 := (some (aI x1), h)) mk_X0_lengthOf sv_X2_longestRow_25 cl_X0 rfl dX2_longestRow_44 c1 rfl rfl (Nat.le_of_ble_eq_true rfl) (Nat.le_of_ble_eq_true rfl) (ok_X0_lengthOf ex1) (show Go M_X2_longestRow (some (aI r.1), r.2) 47 [some (aA v0), some (aA v1), some (aI v2), some (aI v3), some (aI v4), some (aI v5), some (aI v6), some (aI v7), none, none, none, none, none] [aI x1, aI v7] h from ?_)
  refine go_icmp_ge (tgt := 161) dX2_longestRow_47 (by decide) (fun c2 => ?_) (fun c2 => ?_)
  · replace H := (gm_ite H).1 c2
    refine go_mask [true, false, false, false, false, false, true, false, false, false, false, false, false] (loc' := [some (aA v0), none, none, none, none, none, some (aI v6), none, none, none, none, none, none]) rfl ?_
    exact HK161 h H
  · replace H := (gm_ite H).2 c2
    refine go_aloadn dX2_longestRow_50 rfl ?_
    refine go_iloadn dX2_longestRow_51 rfl ?_
    refine go_iloadn dX2_longestRow_52 rfl ?_
    refine go_iload dX2_longestRow_53 rfl ?_
    obtain ⟨c3, x2, ex2, H⟩ := gm_rc H
    refine go_callV (vs := [aI v2, aI v3, aI v7]) (stk := []) (o1 := (some (aI x2), h)) mk_X0_spellingAt sv_X2_longestRow_51 cl_X0 rfl dX2_longestRow_55 c3 rfl rfl (Nat.le_of_ble_eq_true rfl) (Nat.le_of_ble_eq_true rfl) (ok_X0_spellingAt ex2) (show Go M_X2_longestRow (some (aI r.1), r.2) 58 [some (aA v0), some (aA v1), some (aI v2), some (aI v3), some (aI v4), some (aI v5), some (aI v6), some (aI v7), none, none, none, none, none] [aI x2] h from ?_)
    refine go_istore (loc2 := [some (aA v0), some (aA v1), some (aI v2), some (aI v3), some (aI v4), some (aI v5), some (aI v6), some (aI v7), some (aI x2), none, none, none, none]) dX2_longestRow_58 (by decide) rfl ?_
    refine go_iconst (v := (0 : Int32)) dX2_longestRow_60 rfl ?_
    refine go_istore (loc2 := [some (aA v0), some (aA v1), some (aI v2), some (aI v3), some (aI v4), some (aI v5), some (aI v6), some (aI v7), some (aI x2), some (aI (0 : Int32)), none, none, none]) dX2_longestRow_61 (by decide) rfl ?_
    refine go_iconst (v := (1 : Int32)) dX2_longestRow_63 rfl ?_
    refine go_istore (loc2 := [some (aA v0), some (aA v1), some (aI v2), some (aI v3), some (aI v4), some (aI v5), some (aI v6), some (aI v7), some (aI x2), some (aI (0 : Int32)), some (aI (1 : Int32)), none, none]) dX2_longestRow_64 (by decide) rfl ?_
    refine okl_X2_longestRow_66 v0 v1 v2 v3 v4 v5 v6 v7 x2 (fun hz3 => j_X2_longestRow_155 v0 v1 v2 v3 v4 v5 v6 v7 hz3 K161 k) (0 : Int32) (1 : Int32) h ?_ H
    · intro hz3 H
      exact okj_X2_longestRow_155 v0 v1 v2 v3 v4 v5 v6 v7 hz3 K161 k HK161 Hk H
def l_X2_longestRow_39 (v0 : Nat) (v1 : Nat) (v2 : Int32) (v3 : Int32) (v4 : Int32) (v5 : Int32) (v6 : Int32) (K161 : Hp → Option (Int32 × Hp)) (v7 : Int32) (h : Hp) : Option (Int32 × Hp) := loopK FUEL (fun (k : Int32 × Hp → Option (Int32 × Hp)) (s : Int32 × Hp) => b_X2_longestRow_39 v0 v1 v2 v3 v4 v5 v6 K161 (fun v7q hq => k (v7q, hq)) s.1 s.2) (v7, h)
theorem okl_X2_longestRow_39 {r : (Int32 × Hp)} (v0 : Nat) (v1 : Nat) (v2 : Int32) (v3 : Int32) (v4 : Int32) (v5 : Int32) (v6 : Int32) (K161 : Hp → Option (Int32 × Hp)) (v7 : Int32) (h : Hp) (HK161 : ∀   (hq : Hp), K161 hq = some r → Go M_X2_longestRow (some (aI r.1), r.2) 161 [some (aA v0), none, none, none, none, none, some (aI v6), none, none, none, none, none, none] [] hq) (H : l_X2_longestRow_39 v0 v1 v2 v3 v4 v5 v6 K161 v7 h = some r) : Go M_X2_longestRow (some (aI r.1), r.2) 39 [some (aA v0), some (aA v1), some (aI v2), some (aI v3), some (aI v4), some (aI v5), some (aI v6), some (aI v7), none, none, none, none, none] [] h := by
  unfold l_X2_longestRow_39 at H
  exact go_loop (σ := Int32 × Hp) (body := (fun (k : Int32 × Hp → Option (Int32 × Hp)) (s : Int32 × Hp) => b_X2_longestRow_39 v0 v1 v2 v3 v4 v5 v6 K161 (fun v7q hq => k (v7q, hq)) s.1 s.2)) (fun s => [some (aA v0), some (aA v1), some (aI v2), some (aI v3), some (aI v4), some (aI v5), some (aI v6), some (aI s.1), none, none, none, none, none]) (fun s => s.2) (fun k s Hk H => okb_X2_longestRow_39 v0 v1 v2 v3 v4 v5 v6 K161 (fun v7q hq => k (v7q, hq)) s.1 s.2 HK161 (fun v7q hq H => Hk (v7q, hq) H) H) FUEL (v7, h) H
def j_X2_longestRow_161 (v0 : Nat) (v6 : Int32)  (h : Hp) : Option (Int32 × Hp) :=
  (gfR h v0 3 0).bind fun x1 => (m_X5_at x1 v6 h).bind fun x2 => some (x2, h)
set_option maxRecDepth 20000 in
theorem okj_X2_longestRow_161 {r : (Int32 × Hp)} (v0 : Nat) (v6 : Int32)  (h : Hp) (H : j_X2_longestRow_161 v0 v6 h = some r) : Go M_X2_longestRow (some (aI r.1), r.2) 161 [some (aA v0), none, none, none, none, none, some (aI v6), none, none, none, none, none, none] [] h := by
  unfold j_X2_longestRow_161 at H
  refine go_aloadn dX2_longestRow_161 rfl ?_
  refine gm_getR fd_X2_11 dX2_longestRow_162 H (fun x1 H => ?_)
  refine go_iload dX2_longestRow_165 rfl ?_
  obtain ⟨x2, ex2, H⟩ := bind_some H
  refine go_callS (vs := [aA x1, aI v6]) (stk := []) (o1 := (some (aI x2), h)) mk_X5_at ss_X2_longestRow_102 dX2_longestRow_167 rfl rfl (Nat.le_of_ble_eq_true rfl) (Nat.le_of_ble_eq_true rfl) (ok_X5_at ex2) (show Go M_X2_longestRow (some (aI r.1), r.2) 170 [some (aA v0), none, none, none, none, none, some (aI v6), none, none, none, none, none, none] [aI x2] h from ?_)
  obtain rfl := Option.some.inj H
  exact go_ireturn dX2_longestRow_170 (tyI_int rfl)
def j_X2_longestRow_36 (v0 : Nat) (v1 : Nat) (v2 : Int32) (v3 : Int32) (v4 : Int32) (v5 : Int32) (v6 : Int32)  (h : Hp) : Option (Int32 × Hp) :=
  l_X2_longestRow_39 v0 v1 v2 v3 v4 v5 v6 (fun hz1 => j_X2_longestRow_161 v0 v6 hz1) (0 : Int32) h
set_option maxRecDepth 20000 in
theorem okj_X2_longestRow_36 {r : (Int32 × Hp)} (v0 : Nat) (v1 : Nat) (v2 : Int32) (v3 : Int32) (v4 : Int32) (v5 : Int32) (v6 : Int32)  (h : Hp) (H : j_X2_longestRow_36 v0 v1 v2 v3 v4 v5 v6 h = some r) : Go M_X2_longestRow (some (aI r.1), r.2) 36 [some (aA v0), some (aA v1), some (aI v2), some (aI v3), some (aI v4), some (aI v5), some (aI v6), none, none, none, none, none, none] [] h := by
  unfold j_X2_longestRow_36 at H
  refine go_iconst (v := (0 : Int32)) dX2_longestRow_36 rfl ?_
  refine go_istore (loc2 := [some (aA v0), some (aA v1), some (aI v2), some (aI v3), some (aI v4), some (aI v5), some (aI v6), some (aI (0 : Int32)), none, none, none, none, none]) dX2_longestRow_37 (by decide) rfl ?_
  refine okl_X2_longestRow_39 v0 v1 v2 v3 v4 v5 v6 (fun hz1 => j_X2_longestRow_161 v0 v6 hz1) (0 : Int32) h ?_ H
  · intro hz1 H
    exact okj_X2_longestRow_161 v0 v6 hz1  H
def m_X2_longestRow (v0 : Nat) (v1 : Nat) (v2 : Int32) (v3 : Int32) (v4 : Int32) (v5 : Int32) (h : Hp) : Option (Int32 × Hp) :=
  (rc h v1 1 (m_X0_lengthOf v1 v4 v5 h)).bind fun x1 => l_X2_longestRow_13 v0 v1 v2 v3 v4 v5 x1 (fun hz2 => j_X2_longestRow_36 v0 v1 v2 v3 v4 v5 x1 hz2) (0 : Int32) h
set_option maxRecDepth 20000 in
theorem ok_X2_longestRow {r : (Int32 × Hp)} {v0 : Nat} {v1 : Nat} {v2 : Int32} {v3 : Int32} {v4 : Int32} {v5 : Int32} {h : Hp} (H : m_X2_longestRow v0 v1 v2 v3 v4 v5 h = some r) : Ev M_X2_longestRow [aA v0, aA v1, aI v2, aI v3, aI v4, aI v5] h (some (aI r.1), r.2) := by
  show Go M_X2_longestRow (some (aI r.1), r.2) 0 [some (aA v0), some (aA v1), some (aI v2), some (aI v3), some (aI v4), some (aI v5), none, none, none, none, none, none, none] [] h
  unfold m_X2_longestRow at H
  refine go_aloadn dX2_longestRow_0 rfl ?_
  refine go_iload dX2_longestRow_1 rfl ?_
  refine go_iload dX2_longestRow_3 rfl ?_
  obtain ⟨c1, x1, ex1, H⟩ := gm_rc H
  refine go_callV (vs := [aI v4, aI v5]) (stk := []) (o1 := (some (aI x1), h)) mk_X0_lengthOf sv_X2_longestRow_25 cl_X0 rfl dX2_longestRow_5 c1 rfl rfl (Nat.le_of_ble_eq_true rfl) (Nat.le_of_ble_eq_true rfl) (ok_X0_lengthOf ex1) (show Go M_X2_longestRow (some (aI r.1), r.2) 8 [some (aA v0), some (aA v1), some (aI v2), some (aI v3), some (aI v4), some (aI v5), none, none, none, none, none, none, none] [aI x1] h from ?_)
  refine go_istore (loc2 := [some (aA v0), some (aA v1), some (aI v2), some (aI v3), some (aI v4), some (aI v5), some (aI x1), none, none, none, none, none, none]) dX2_longestRow_8 (by decide) rfl ?_
  refine go_iconst (v := (0 : Int32)) dX2_longestRow_10 rfl ?_
  refine go_istore (loc2 := [some (aA v0), some (aA v1), some (aI v2), some (aI v3), some (aI v4), some (aI v5), some (aI x1), some (aI (0 : Int32)), none, none, none, none, none]) dX2_longestRow_11 (by decide) rfl ?_
  refine okl_X2_longestRow_13 v0 v1 v2 v3 v4 v5 x1 (fun hz2 => j_X2_longestRow_36 v0 v1 v2 v3 v4 v5 x1 hz2) (0 : Int32) h ?_ H
  · intro hz2 H
    exact okj_X2_longestRow_36 v0 v1 v2 v3 v4 v5 x1 hz2  H
/-! X11_common -/
def m_X11_common (v0 : Nat) (v1 : Int32) (v2 : Int32) (v3 : Int32) (v4 : Int32) (v5 : Int32) (h : Hp) : Option (Int32 × Hp) :=
  (gfR h v0 11 0).bind fun x1 => (rc h x1 9 (m_X9_archiveAt x1 v1 h)).bind fun x2 => (nz x2).bind fun _ => if x2 = 0 then (some ((-1 : Int32), h)) else (rc h x2 1 (m_X0_hasVersion x2 v2 v3 h)).bind fun x3 => if x3 = 0 then (some ((-1 : Int32), h)) else (rc h x2 1 (m_X0_hasVersion x2 v4 v5 h)).bind fun x4 => if ¬ x4 = 0 then ((gfR h v0 11 3).bind fun x5 => (rc h x5 3 (m_X2_longestRow x5 x2 v2 v3 v4 v5 h)).bind fun x6 => some (x6.1, x6.2)) else some ((-1 : Int32), h)
set_option maxRecDepth 20000 in
theorem ok_X11_common {r : (Int32 × Hp)} {v0 : Nat} {v1 : Int32} {v2 : Int32} {v3 : Int32} {v4 : Int32} {v5 : Int32} {h : Hp} (H : m_X11_common v0 v1 v2 v3 v4 v5 h = some r) : Ev M_X11_common [aA v0, aI v1, aI v2, aI v3, aI v4, aI v5] h (some (aI r.1), r.2) := by
  show Go M_X11_common (some (aI r.1), r.2) 0 [some (aA v0), some (aI v1), some (aI v2), some (aI v3), some (aI v4), some (aI v5), none] [] h
  unfold m_X11_common at H
  refine go_aloadn dX11_common_0 rfl ?_
  refine gm_getR fd_X11_10 dX11_common_1 H (fun x1 H => ?_)
  refine go_iloadn dX11_common_4 rfl ?_
  obtain ⟨c1, x2, ex2, H⟩ := gm_rc H
  refine go_callV (vs := [aI v1]) (stk := []) (o1 := (some (aA x2), h)) mk_X9_archiveAt sv_X11_common_86 cl_X9 rfl dX11_common_5 c1 rfl rfl (Nat.le_of_ble_eq_true rfl) (Nat.le_of_ble_eq_true rfl) (ok_X9_archiveAt ex2) (show Go M_X11_common (some (aI r.1), r.2) 8 [some (aA v0), some (aI v1), some (aI v2), some (aI v3), some (aI v4), some (aI v5), none] [aA x2] h from ?_)
  refine go_astore (loc2 := [some (aA v0), some (aI v1), some (aI v2), some (aI v3), some (aI v4), some (aI v5), some (aA x2)]) dX11_common_8 (by decide) rfl ?_
  refine go_aload dX11_common_10 rfl ?_
  obtain ⟨c3, H⟩ := gm_nz H
  refine go_ifnull (tgt := 37) dX11_common_12 (by decide) c3 (fun c2 => ?_) (fun c2 => ?_)
  · replace H := (gm_ite H).1 c2
    refine go_iconst (v := (-1 : Int32)) dX11_common_37 rfl ?_
    obtain rfl := Option.some.inj H
    exact go_ireturn dX11_common_38 (tyI_int rfl)
  · replace H := (gm_ite H).2 c2
    refine go_aload dX11_common_15 rfl ?_
    refine go_iloadn dX11_common_17 rfl ?_
    refine go_iloadn dX11_common_18 rfl ?_
    obtain ⟨c4, x3, ex3, H⟩ := gm_rc H
    refine go_callV (vs := [aI v2, aI v3]) (stk := []) (o1 := (some (aI x3), h)) mk_X0_hasVersion sv_X11_common_140 cl_X0 rfl dX11_common_19 c4 rfl rfl (Nat.le_of_ble_eq_true rfl) (Nat.le_of_ble_eq_true rfl) (ok_X0_hasVersion ex3) (show Go M_X11_common (some (aI r.1), r.2) 22 [some (aA v0), some (aI v1), some (aI v2), some (aI v3), some (aI v4), some (aI v5), some (aA x2)] [aI x3] h from ?_)
    refine go_if_eq (tgt := 37) dX11_common_22 (by decide) (fun c5 => ?_) (fun c5 => ?_)
    · replace H := (gm_ite H).1 c5
      refine go_iconst (v := (-1 : Int32)) dX11_common_37 rfl ?_
      obtain rfl := Option.some.inj H
      exact go_ireturn dX11_common_38 (tyI_int rfl)
    · replace H := (gm_ite H).2 c5
      refine go_aload dX11_common_25 rfl ?_
      refine go_iload dX11_common_27 rfl ?_
      refine go_iload dX11_common_29 rfl ?_
      obtain ⟨c6, x4, ex4, H⟩ := gm_rc H
      refine go_callV (vs := [aI v4, aI v5]) (stk := []) (o1 := (some (aI x4), h)) mk_X0_hasVersion sv_X11_common_140 cl_X0 rfl dX11_common_31 c6 rfl rfl (Nat.le_of_ble_eq_true rfl) (Nat.le_of_ble_eq_true rfl) (ok_X0_hasVersion ex4) (show Go M_X11_common (some (aI r.1), r.2) 34 [some (aA v0), some (aI v1), some (aI v2), some (aI v3), some (aI v4), some (aI v5), some (aA x2)] [aI x4] h from ?_)
      refine go_if_ne (tgt := 39) dX11_common_34 (by decide) (fun c7 => ?_) (fun c7 => ?_)
      · replace H := (gm_ite H).1 c7
        refine go_aloadn dX11_common_39 rfl ?_
        refine gm_getR fd_X11_30 dX11_common_40 H (fun x5 H => ?_)
        refine go_aload dX11_common_43 rfl ?_
        refine go_iloadn dX11_common_45 rfl ?_
        refine go_iloadn dX11_common_46 rfl ?_
        refine go_iload dX11_common_47 rfl ?_
        refine go_iload dX11_common_49 rfl ?_
        obtain ⟨c8, x6, ex6, H⟩ := gm_rc H
        refine go_callV (vs := [aA x2, aI v2, aI v3, aI v4, aI v5]) (stk := []) (o1 := (some (aI x6.1), x6.2)) mk_X2_longestRow sv_X11_common_227 cl_X2 rfl dX11_common_51 c8 rfl rfl (Nat.le_of_ble_eq_true rfl) (Nat.le_of_ble_eq_true rfl) (ok_X2_longestRow ex6) (show Go M_X11_common (some (aI r.1), r.2) 54 [some (aA v0), some (aI v1), some (aI v2), some (aI v3), some (aI v4), some (aI v5), some (aA x2)] [aI x6.1] x6.2 from ?_)
        obtain rfl := Option.some.inj H
        exact go_ireturn dX11_common_54 (tyI_int rfl)
      · replace H := (gm_ite H).2 c7
        refine go_iconst (v := (-1 : Int32)) dX11_common_37 rfl ?_
        obtain rfl := Option.some.inj H
        exact go_ireturn dX11_common_38 (tyI_int rfl)
/-! X12_common -/
def b_X12_common_38 (v0 : Nat) (v2 : Int32) (v3 : Int32) (v4 : Int32) (v5 : Int32) (K60 : Hp → Option (Int32 × Hp)) (k : Int32 → Hp → Option (Int32 × Hp)) (v6 : Int32) (h : Hp) : Option (Int32 × Hp) :=
  if (441 : Int32) ≤ v6 then K60 h else (gfR h v0 12 27).bind fun x1 => (asI h x1 v6 (0 : Int32)).bind fun hh1 => k (v6 + (1 : Int32)) hh1
set_option maxRecDepth 20000 in
theorem okb_X12_common_38 {r : (Int32 × Hp)} (v0 : Nat) (v2 : Int32) (v3 : Int32) (v4 : Int32) (v5 : Int32) (K60 : Hp → Option (Int32 × Hp)) (k : Int32 → Hp → Option (Int32 × Hp)) (v6 : Int32) (h : Hp) (HK60 : ∀   (hq : Hp), K60 hq = some r → Go M_X12_common (some (aI r.1), r.2) 60 [some (aA v0), none, some (aI v2), some (aI v3), some (aI v4), some (aI v5), none, none, none, none, none, none] [] hq) (Hk : ∀ (v6q : Int32) (hq : Hp), k v6q hq = some r → Go M_X12_common (some (aI r.1), r.2) 38 [some (aA v0), none, some (aI v2), some (aI v3), some (aI v4), some (aI v5), some (aI v6q), none, none, none, none, none] [] hq) (H : b_X12_common_38 v0 v2 v3 v4 v5 K60 k v6 h = some r) : Go M_X12_common (some (aI r.1), r.2) 38 [some (aA v0), none, some (aI v2), some (aI v3), some (aI v4), some (aI v5), some (aI v6), none, none, none, none, none] [] h := by
  unfold b_X12_common_38 at H
  refine go_iload dX12_common_38 rfl ?_
  refine go_sipush (v := (441 : Int32)) dX12_common_40 rfl ?_
  refine go_icmp_ge (tgt := 60) dX12_common_43 (by decide) (fun c1 => ?_) (fun c1 => ?_)
  · replace H := (gm_ite H).1 c1
    refine go_mask [true, false, true, true, true, true, false, false, false, false, false, false] (loc' := [some (aA v0), none, some (aI v2), some (aI v3), some (aI v4), some (aI v5), none, none, none, none, none, none]) rfl ?_
    exact HK60 h H
  · replace H := (gm_ite H).2 c1
    refine go_aloadn dX12_common_46 rfl ?_
    refine gm_getR fd_X12_47 dX12_common_47 H (fun x1 H => ?_)
    refine go_iload dX12_common_50 rfl ?_
    refine go_iconst (v := (0 : Int32)) dX12_common_52 rfl ?_
    refine gm_iast dX12_common_53 H (fun hh1 H => ?_)
    refine go_iinc (v := (v6 + (1 : Int32))) (loc2 := [some (aA v0), none, some (aI v2), some (aI v3), some (aI v4), some (aI v5), some (aI (v6 + (1 : Int32))), none, none, none, none, none]) dX12_common_54 rfl rfl (by decide) rfl ?_
    refine go_goto (tgt := 38) dX12_common_57 (by decide) ?_
    exact Hk (v6 + (1 : Int32)) hh1 H
def l_X12_common_38 (v0 : Nat) (v2 : Int32) (v3 : Int32) (v4 : Int32) (v5 : Int32) (K60 : Hp → Option (Int32 × Hp)) (v6 : Int32) (h : Hp) : Option (Int32 × Hp) := loopK FUEL (fun (k : Int32 × Hp → Option (Int32 × Hp)) (s : Int32 × Hp) => b_X12_common_38 v0 v2 v3 v4 v5 K60 (fun v6q hq => k (v6q, hq)) s.1 s.2) (v6, h)
theorem okl_X12_common_38 {r : (Int32 × Hp)} (v0 : Nat) (v2 : Int32) (v3 : Int32) (v4 : Int32) (v5 : Int32) (K60 : Hp → Option (Int32 × Hp)) (v6 : Int32) (h : Hp) (HK60 : ∀   (hq : Hp), K60 hq = some r → Go M_X12_common (some (aI r.1), r.2) 60 [some (aA v0), none, some (aI v2), some (aI v3), some (aI v4), some (aI v5), none, none, none, none, none, none] [] hq) (H : l_X12_common_38 v0 v2 v3 v4 v5 K60 v6 h = some r) : Go M_X12_common (some (aI r.1), r.2) 38 [some (aA v0), none, some (aI v2), some (aI v3), some (aI v4), some (aI v5), some (aI v6), none, none, none, none, none] [] h := by
  unfold l_X12_common_38 at H
  exact go_loop (σ := Int32 × Hp) (body := (fun (k : Int32 × Hp → Option (Int32 × Hp)) (s : Int32 × Hp) => b_X12_common_38 v0 v2 v3 v4 v5 K60 (fun v6q hq => k (v6q, hq)) s.1 s.2)) (fun s => [some (aA v0), none, some (aI v2), some (aI v3), some (aI v4), some (aI v5), some (aI s.1), none, none, none, none, none]) (fun s => s.2) (fun k s Hk H => okb_X12_common_38 v0 v2 v3 v4 v5 K60 (fun v6q hq => k (v6q, hq)) s.1 s.2 HK60 (fun v6q hq H => Hk (v6q, hq) H) H) FUEL (v6, h) H
def j_X12_common_206 (v0 : Nat) (v2 : Int32) (v3 : Int32) (v4 : Int32) (v5 : Int32) (v6 : Int32) (v7 : Int32) (v8 : Int32) (v9 : Int32) (s0 : Nat) (s1 : Int32) (s2 : Int32) (h : Hp) (K213 : Hp → Option (Int32 × Hp)) (k : Int32 → Hp → Option (Int32 × Hp)) : Option (Int32 × Hp) :=
  (asI h s0 s1 s2).bind fun hh1 => k (v9 + (1 : Int32)) hh1
set_option maxRecDepth 20000 in
theorem okj_X12_common_206 {r : (Int32 × Hp)} (v0 : Nat) (v2 : Int32) (v3 : Int32) (v4 : Int32) (v5 : Int32) (v6 : Int32) (v7 : Int32) (v8 : Int32) (v9 : Int32) (s0 : Nat) (s1 : Int32) (s2 : Int32) (h : Hp) (K213 : Hp → Option (Int32 × Hp)) (k : Int32 → Hp → Option (Int32 × Hp)) (HK213 : ∀   (hq : Hp), K213 hq = some r → Go M_X12_common (some (aI r.1), r.2) 213 [some (aA v0), none, some (aI v2), some (aI v3), some (aI v4), some (aI v5), some (aI v6), some (aI v7), some (aI v8), none, none, none] [] hq) (Hk : ∀ (v9q : Int32) (hq : Hp), k v9q hq = some r → Go M_X12_common (some (aI r.1), r.2) 91 [some (aA v0), none, some (aI v2), some (aI v3), some (aI v4), some (aI v5), some (aI v6), some (aI v7), some (aI v8), some (aI v9q), none, none] [] hq) (H : j_X12_common_206 v0 v2 v3 v4 v5 v6 v7 v8 v9 s0 s1 s2 h K213 k = some r) : Go M_X12_common (some (aI r.1), r.2) 206 [some (aA v0), none, some (aI v2), some (aI v3), some (aI v4), some (aI v5), some (aI v6), some (aI v7), some (aI v8), some (aI v9), none, none] [aI s2, aI s1, aA s0] h := by
  unfold j_X12_common_206 at H
  refine gm_iast dX12_common_206 H (fun hh1 H => ?_)
  refine go_iinc (v := (v9 + (1 : Int32))) (loc2 := [some (aA v0), none, some (aI v2), some (aI v3), some (aI v4), some (aI v5), some (aI v6), some (aI v7), some (aI v8), some (aI (v9 + (1 : Int32))), none, none]) dX12_common_207 rfl rfl (by decide) rfl ?_
  refine go_goto (tgt := 91) dX12_common_210 (by decide) ?_
  exact Hk (v9 + (1 : Int32)) hh1 H
def j_X12_common_128 (v0 : Nat) (v2 : Int32) (v3 : Int32) (v4 : Int32) (v5 : Int32) (v6 : Int32) (v7 : Int32) (v8 : Int32) (v9 : Int32) (s0 : Int32) (h : Hp) (K213 : Hp → Option (Int32 × Hp)) (k : Int32 → Hp → Option (Int32 × Hp)) : Option (Int32 × Hp) :=
  (gfR h v0 12 27).bind fun x1 => (alI h x1 ((((21 : Int32) * v8) - (21 : Int32)) + v9)).bind fun x2 => (gfR h v0 12 27).bind fun x3 => (alI h x3 ((((21 : Int32) * v8) + v9) - (1 : Int32))).bind fun x4 => (m_X12_greater x2 x4 h).bind fun x5 => (gfR h v0 12 27).bind fun x6 => if s0 = 0 then j_X12_common_206 v0 v2 v3 v4 v5 v6 v7 v8 v9 x6 (((21 : Int32) * v8) + v9) x5 h K213 k else (gfR h v0 12 27).bind fun x7 => (alI h x7 ((((21 : Int32) * v8) - (22 : Int32)) + v9)).bind fun x8 => j_X12_common_206 v0 v2 v3 v4 v5 v6 v7 v8 v9 x6 (((21 : Int32) * v8) + v9) (x8 + (1 : Int32)) h K213 k
set_option maxRecDepth 20000 in
theorem okj_X12_common_128 {r : (Int32 × Hp)} (v0 : Nat) (v2 : Int32) (v3 : Int32) (v4 : Int32) (v5 : Int32) (v6 : Int32) (v7 : Int32) (v8 : Int32) (v9 : Int32) (s0 : Int32) (h : Hp) (K213 : Hp → Option (Int32 × Hp)) (k : Int32 → Hp → Option (Int32 × Hp)) (HK213 : ∀   (hq : Hp), K213 hq = some r → Go M_X12_common (some (aI r.1), r.2) 213 [some (aA v0), none, some (aI v2), some (aI v3), some (aI v4), some (aI v5), some (aI v6), some (aI v7), some (aI v8), none, none, none] [] hq) (Hk : ∀ (v9q : Int32) (hq : Hp), k v9q hq = some r → Go M_X12_common (some (aI r.1), r.2) 91 [some (aA v0), none, some (aI v2), some (aI v3), some (aI v4), some (aI v5), some (aI v6), some (aI v7), some (aI v8), some (aI v9q), none, none] [] hq) (H : j_X12_common_128 v0 v2 v3 v4 v5 v6 v7 v8 v9 s0 h K213 k = some r) : Go M_X12_common (some (aI r.1), r.2) 128 [some (aA v0), none, some (aI v2), some (aI v3), some (aI v4), some (aI v5), some (aI v6), some (aI v7), some (aI v8), some (aI v9), none, none] [aI s0] h := by
  unfold j_X12_common_128 at H
  refine go_istore (loc2 := [some (aA v0), none, some (aI v2), some (aI v3), some (aI v4), some (aI v5), some (aI v6), some (aI v7), some (aI v8), some (aI v9), some (aI s0), none]) dX12_common_128 (by decide) rfl ?_
  refine go_aloadn dX12_common_130 rfl ?_
  refine gm_getR fd_X12_47 dX12_common_131 H (fun x1 H => ?_)
  refine go_bipush (v := (21 : Int32)) dX12_common_134 rfl ?_
  refine go_iload dX12_common_136 rfl ?_
  refine go_imul dX12_common_138 ?_
  refine go_bipush (v := (21 : Int32)) dX12_common_139 rfl ?_
  refine go_isub dX12_common_141 ?_
  refine go_iload dX12_common_142 rfl ?_
  refine go_iadd dX12_common_144 ?_
  refine gm_iald dX12_common_145 H (fun x2 H => ?_)
  refine go_aloadn dX12_common_146 rfl ?_
  refine gm_getR fd_X12_47 dX12_common_147 H (fun x3 H => ?_)
  refine go_bipush (v := (21 : Int32)) dX12_common_150 rfl ?_
  refine go_iload dX12_common_152 rfl ?_
  refine go_imul dX12_common_154 ?_
  refine go_iload dX12_common_155 rfl ?_
  refine go_iadd dX12_common_157 ?_
  refine go_iconst (v := (1 : Int32)) dX12_common_158 rfl ?_
  refine go_isub dX12_common_159 ?_
  refine gm_iald dX12_common_160 H (fun x4 H => ?_)
  obtain ⟨x5, ex5, H⟩ := bind_some H
  refine go_callS (vs := [aI x2, aI x4]) (stk := []) (o1 := (some (aI x5), h)) mk_X12_greater ss_X12_common_297 dX12_common_161 rfl rfl (Nat.le_of_ble_eq_true rfl) (Nat.le_of_ble_eq_true rfl) (ok_X12_greater ex5) (show Go M_X12_common (some (aI r.1), r.2) 164 [some (aA v0), none, some (aI v2), some (aI v3), some (aI v4), some (aI v5), some (aI v6), some (aI v7), some (aI v8), some (aI v9), some (aI s0), none] [aI x5] h from ?_)
  refine go_istore (loc2 := [some (aA v0), none, some (aI v2), some (aI v3), some (aI v4), some (aI v5), some (aI v6), some (aI v7), some (aI v8), some (aI v9), some (aI s0), some (aI x5)]) dX12_common_164 (by decide) rfl ?_
  refine go_aloadn dX12_common_166 rfl ?_
  refine gm_getR fd_X12_47 dX12_common_167 H (fun x6 H => ?_)
  refine go_bipush (v := (21 : Int32)) dX12_common_170 rfl ?_
  refine go_iload dX12_common_172 rfl ?_
  refine go_imul dX12_common_174 ?_
  refine go_iload dX12_common_175 rfl ?_
  refine go_iadd dX12_common_177 ?_
  refine go_iload dX12_common_178 rfl ?_
  refine go_if_eq (tgt := 204) dX12_common_180 (by decide) (fun c2 => ?_) (fun c2 => ?_)
  · replace H := (gm_ite H).1 c2
    refine go_iload dX12_common_204 rfl ?_
    refine go_mask [true, false, true, true, true, true, true, true, true, true, false, false] (loc' := [some (aA v0), none, some (aI v2), some (aI v3), some (aI v4), some (aI v5), some (aI v6), some (aI v7), some (aI v8), some (aI v9), none, none]) rfl ?_
    exact okj_X12_common_206 v0 v2 v3 v4 v5 v6 v7 v8 v9 x6 (((21 : Int32) * v8) + v9) x5 h K213 k HK213 Hk H
  · replace H := (gm_ite H).2 c2
    refine go_aloadn dX12_common_183 rfl ?_
    refine gm_getR fd_X12_47 dX12_common_184 H (fun x7 H => ?_)
    refine go_bipush (v := (21 : Int32)) dX12_common_187 rfl ?_
    refine go_iload dX12_common_189 rfl ?_
    refine go_imul dX12_common_191 ?_
    refine go_bipush (v := (22 : Int32)) dX12_common_192 rfl ?_
    refine go_isub dX12_common_194 ?_
    refine go_iload dX12_common_195 rfl ?_
    refine go_iadd dX12_common_197 ?_
    refine gm_iald dX12_common_198 H (fun x8 H => ?_)
    refine go_iconst (v := (1 : Int32)) dX12_common_199 rfl ?_
    refine go_iadd dX12_common_200 ?_
    refine go_goto (tgt := 206) dX12_common_201 (by decide) ?_
    refine go_mask [true, false, true, true, true, true, true, true, true, true, false, false] (loc' := [some (aA v0), none, some (aI v2), some (aI v3), some (aI v4), some (aI v5), some (aI v6), some (aI v7), some (aI v8), some (aI v9), none, none]) rfl ?_
    exact okj_X12_common_206 v0 v2 v3 v4 v5 v6 v7 v8 v9 x6 (((21 : Int32) * v8) + v9) (x8 + (1 : Int32)) h K213 k HK213 Hk H
def b_X12_common_91 (v0 : Nat) (v2 : Int32) (v3 : Int32) (v4 : Int32) (v5 : Int32) (v6 : Int32) (v7 : Int32) (v8 : Int32) (K213 : Hp → Option (Int32 × Hp)) (k : Int32 → Hp → Option (Int32 × Hp)) (v9 : Int32) (h : Hp) : Option (Int32 × Hp) :=
  if v7 < v9 then K213 h else (rc h v0 12 (m_X12_wordAt v0 v2 v3 (v8 - (1 : Int32)) h)).bind fun x1 => (rc h v0 12 (m_X12_wordAt v0 v4 v5 (v9 - (1 : Int32)) h)).bind fun x2 => j_X12_common_128 v0 v2 v3 v4 v5 v6 v7 v8 v9 (if ¬ x1 = x2 then (0 : Int32) else (1 : Int32)) h K213 k
set_option maxRecDepth 20000 in
theorem okb_X12_common_91 {r : (Int32 × Hp)} (v0 : Nat) (v2 : Int32) (v3 : Int32) (v4 : Int32) (v5 : Int32) (v6 : Int32) (v7 : Int32) (v8 : Int32) (K213 : Hp → Option (Int32 × Hp)) (k : Int32 → Hp → Option (Int32 × Hp)) (v9 : Int32) (h : Hp) (HK213 : ∀   (hq : Hp), K213 hq = some r → Go M_X12_common (some (aI r.1), r.2) 213 [some (aA v0), none, some (aI v2), some (aI v3), some (aI v4), some (aI v5), some (aI v6), some (aI v7), some (aI v8), none, none, none] [] hq) (Hk : ∀ (v9q : Int32) (hq : Hp), k v9q hq = some r → Go M_X12_common (some (aI r.1), r.2) 91 [some (aA v0), none, some (aI v2), some (aI v3), some (aI v4), some (aI v5), some (aI v6), some (aI v7), some (aI v8), some (aI v9q), none, none] [] hq) (H : b_X12_common_91 v0 v2 v3 v4 v5 v6 v7 v8 K213 k v9 h = some r) : Go M_X12_common (some (aI r.1), r.2) 91 [some (aA v0), none, some (aI v2), some (aI v3), some (aI v4), some (aI v5), some (aI v6), some (aI v7), some (aI v8), some (aI v9), none, none] [] h := by
  unfold b_X12_common_91 at H
  refine go_iload dX12_common_91 rfl ?_
  refine go_iload dX12_common_93 rfl ?_
  refine go_icmp_gt (tgt := 213) dX12_common_95 (by decide) (fun c1 => ?_) (fun c1 => ?_)
  · replace H := (gm_ite H).1 c1
    refine go_mask [true, false, true, true, true, true, true, true, true, false, false, false] (loc' := [some (aA v0), none, some (aI v2), some (aI v3), some (aI v4), some (aI v5), some (aI v6), some (aI v7), some (aI v8), none, none, none]) rfl ?_
    exact HK213 h H
  · replace H := (gm_ite H).2 c1
    refine go_aloadn dX12_common_98 rfl ?_
    refine go_iloadn dX12_common_99 rfl ?_
    refine go_iloadn dX12_common_100 rfl ?_
    refine go_iload dX12_common_101 rfl ?_
    refine go_iconst (v := (1 : Int32)) dX12_common_103 rfl ?_
    refine go_isub dX12_common_104 ?_
    obtain ⟨c2, x1, ex1, H⟩ := gm_rc H
    refine go_callV (vs := [aI v2, aI v3, aI (v8 - (1 : Int32))]) (stk := []) (o1 := (some (aI x1), h)) mk_X12_wordAt sv_X12_common_275 cl_X12 rfl dX12_common_105 c2 rfl rfl (Nat.le_of_ble_eq_true rfl) (Nat.le_of_ble_eq_true rfl) (ok_X12_wordAt ex1) (show Go M_X12_common (some (aI r.1), r.2) 108 [some (aA v0), none, some (aI v2), some (aI v3), some (aI v4), some (aI v5), some (aI v6), some (aI v7), some (aI v8), some (aI v9), none, none] [aI x1] h from ?_)
    refine go_aloadn dX12_common_108 rfl ?_
    refine go_iload dX12_common_109 rfl ?_
    refine go_iload dX12_common_111 rfl ?_
    refine go_iload dX12_common_113 rfl ?_
    refine go_iconst (v := (1 : Int32)) dX12_common_115 rfl ?_
    refine go_isub dX12_common_116 ?_
    obtain ⟨c3, x2, ex2, H⟩ := gm_rc H
    refine go_callV (vs := [aI v4, aI v5, aI (v9 - (1 : Int32))]) (stk := [aI x1]) (o1 := (some (aI x2), h)) mk_X12_wordAt sv_X12_common_275 cl_X12 rfl dX12_common_117 c3 rfl rfl (Nat.le_of_ble_eq_true rfl) (Nat.le_of_ble_eq_true rfl) (ok_X12_wordAt ex2) (show Go M_X12_common (some (aI r.1), r.2) 120 [some (aA v0), none, some (aI v2), some (aI v3), some (aI v4), some (aI v5), some (aI v6), some (aI v7), some (aI v8), some (aI v9), none, none] [aI x2, aI x1] h from ?_)
    refine go_icmp_ne (tgt := 127) dX12_common_120 (by decide) (fun c4 => ?_) (fun c4 => ?_)
    · rw [if_pos c4] at H
      refine go_iconst (v := (0 : Int32)) dX12_common_127 rfl ?_
      exact okj_X12_common_128 v0 v2 v3 v4 v5 v6 v7 v8 v9 (0 : Int32) h K213 k HK213 Hk H
    · rw [if_neg c4] at H
      refine go_iconst (v := (1 : Int32)) dX12_common_123 rfl ?_
      refine go_goto (tgt := 128) dX12_common_124 (by decide) ?_
      exact okj_X12_common_128 v0 v2 v3 v4 v5 v6 v7 v8 v9 (1 : Int32) h K213 k HK213 Hk H
def l_X12_common_91 (v0 : Nat) (v2 : Int32) (v3 : Int32) (v4 : Int32) (v5 : Int32) (v6 : Int32) (v7 : Int32) (v8 : Int32) (K213 : Hp → Option (Int32 × Hp)) (v9 : Int32) (h : Hp) : Option (Int32 × Hp) := loopK FUEL (fun (k : Int32 × Hp → Option (Int32 × Hp)) (s : Int32 × Hp) => b_X12_common_91 v0 v2 v3 v4 v5 v6 v7 v8 K213 (fun v9q hq => k (v9q, hq)) s.1 s.2) (v9, h)
theorem okl_X12_common_91 {r : (Int32 × Hp)} (v0 : Nat) (v2 : Int32) (v3 : Int32) (v4 : Int32) (v5 : Int32) (v6 : Int32) (v7 : Int32) (v8 : Int32) (K213 : Hp → Option (Int32 × Hp)) (v9 : Int32) (h : Hp) (HK213 : ∀   (hq : Hp), K213 hq = some r → Go M_X12_common (some (aI r.1), r.2) 213 [some (aA v0), none, some (aI v2), some (aI v3), some (aI v4), some (aI v5), some (aI v6), some (aI v7), some (aI v8), none, none, none] [] hq) (H : l_X12_common_91 v0 v2 v3 v4 v5 v6 v7 v8 K213 v9 h = some r) : Go M_X12_common (some (aI r.1), r.2) 91 [some (aA v0), none, some (aI v2), some (aI v3), some (aI v4), some (aI v5), some (aI v6), some (aI v7), some (aI v8), some (aI v9), none, none] [] h := by
  unfold l_X12_common_91 at H
  exact go_loop (σ := Int32 × Hp) (body := (fun (k : Int32 × Hp → Option (Int32 × Hp)) (s : Int32 × Hp) => b_X12_common_91 v0 v2 v3 v4 v5 v6 v7 v8 K213 (fun v9q hq => k (v9q, hq)) s.1 s.2)) (fun s => [some (aA v0), none, some (aI v2), some (aI v3), some (aI v4), some (aI v5), some (aI v6), some (aI v7), some (aI v8), some (aI s.1), none, none]) (fun s => s.2) (fun k s Hk H => okb_X12_common_91 v0 v2 v3 v4 v5 v6 v7 v8 K213 (fun v9q hq => k (v9q, hq)) s.1 s.2 HK213 (fun v9q hq H => Hk (v9q, hq) H) H) FUEL (v9, h) H
def j_X12_common_213 (v0 : Nat) (v2 : Int32) (v3 : Int32) (v4 : Int32) (v5 : Int32) (v6 : Int32) (v7 : Int32) (v8 : Int32)  (h : Hp) (K219 : Hp → Option (Int32 × Hp)) (k : Int32 → Hp → Option (Int32 × Hp)) : Option (Int32 × Hp) :=
  k (v8 + (1 : Int32)) h
set_option maxRecDepth 20000 in
theorem okj_X12_common_213 {r : (Int32 × Hp)} (v0 : Nat) (v2 : Int32) (v3 : Int32) (v4 : Int32) (v5 : Int32) (v6 : Int32) (v7 : Int32) (v8 : Int32)  (h : Hp) (K219 : Hp → Option (Int32 × Hp)) (k : Int32 → Hp → Option (Int32 × Hp)) (HK219 : ∀   (hq : Hp), K219 hq = some r → Go M_X12_common (some (aI r.1), r.2) 219 [some (aA v0), none, none, none, none, none, some (aI v6), some (aI v7), none, none, none, none] [] hq) (Hk : ∀ (v8q : Int32) (hq : Hp), k v8q hq = some r → Go M_X12_common (some (aI r.1), r.2) 81 [some (aA v0), none, some (aI v2), some (aI v3), some (aI v4), some (aI v5), some (aI v6), some (aI v7), some (aI v8q), none, none, none] [] hq) (H : j_X12_common_213 v0 v2 v3 v4 v5 v6 v7 v8 h K219 k = some r) : Go M_X12_common (some (aI r.1), r.2) 213 [some (aA v0), none, some (aI v2), some (aI v3), some (aI v4), some (aI v5), some (aI v6), some (aI v7), some (aI v8), none, none, none] [] h := by
  unfold j_X12_common_213 at H
  refine go_iinc (v := (v8 + (1 : Int32))) (loc2 := [some (aA v0), none, some (aI v2), some (aI v3), some (aI v4), some (aI v5), some (aI v6), some (aI v7), some (aI (v8 + (1 : Int32))), none, none, none]) dX12_common_213 rfl rfl (by decide) rfl ?_
  refine go_goto (tgt := 81) dX12_common_216 (by decide) ?_
  exact Hk (v8 + (1 : Int32)) h H
def b_X12_common_81 (v0 : Nat) (v2 : Int32) (v3 : Int32) (v4 : Int32) (v5 : Int32) (v6 : Int32) (v7 : Int32) (K219 : Hp → Option (Int32 × Hp)) (k : Int32 → Hp → Option (Int32 × Hp)) (v8 : Int32) (h : Hp) : Option (Int32 × Hp) :=
  if v6 < v8 then K219 h else l_X12_common_91 v0 v2 v3 v4 v5 v6 v7 v8 (fun hz1 => j_X12_common_213 v0 v2 v3 v4 v5 v6 v7 v8 hz1 K219 k) (1 : Int32) h
set_option maxRecDepth 20000 in
theorem okb_X12_common_81 {r : (Int32 × Hp)} (v0 : Nat) (v2 : Int32) (v3 : Int32) (v4 : Int32) (v5 : Int32) (v6 : Int32) (v7 : Int32) (K219 : Hp → Option (Int32 × Hp)) (k : Int32 → Hp → Option (Int32 × Hp)) (v8 : Int32) (h : Hp) (HK219 : ∀   (hq : Hp), K219 hq = some r → Go M_X12_common (some (aI r.1), r.2) 219 [some (aA v0), none, none, none, none, none, some (aI v6), some (aI v7), none, none, none, none] [] hq) (Hk : ∀ (v8q : Int32) (hq : Hp), k v8q hq = some r → Go M_X12_common (some (aI r.1), r.2) 81 [some (aA v0), none, some (aI v2), some (aI v3), some (aI v4), some (aI v5), some (aI v6), some (aI v7), some (aI v8q), none, none, none] [] hq) (H : b_X12_common_81 v0 v2 v3 v4 v5 v6 v7 K219 k v8 h = some r) : Go M_X12_common (some (aI r.1), r.2) 81 [some (aA v0), none, some (aI v2), some (aI v3), some (aI v4), some (aI v5), some (aI v6), some (aI v7), some (aI v8), none, none, none] [] h := by
  unfold b_X12_common_81 at H
  refine go_iload dX12_common_81 rfl ?_
  refine go_iload dX12_common_83 rfl ?_
  refine go_icmp_gt (tgt := 219) dX12_common_85 (by decide) (fun c1 => ?_) (fun c1 => ?_)
  · replace H := (gm_ite H).1 c1
    refine go_mask [true, false, false, false, false, false, true, true, false, false, false, false] (loc' := [some (aA v0), none, none, none, none, none, some (aI v6), some (aI v7), none, none, none, none]) rfl ?_
    exact HK219 h H
  · replace H := (gm_ite H).2 c1
    refine go_iconst (v := (1 : Int32)) dX12_common_88 rfl ?_
    refine go_istore (loc2 := [some (aA v0), none, some (aI v2), some (aI v3), some (aI v4), some (aI v5), some (aI v6), some (aI v7), some (aI v8), some (aI (1 : Int32)), none, none]) dX12_common_89 (by decide) rfl ?_
    refine okl_X12_common_91 v0 v2 v3 v4 v5 v6 v7 v8 (fun hz1 => j_X12_common_213 v0 v2 v3 v4 v5 v6 v7 v8 hz1 K219 k) (1 : Int32) h ?_ H
    · intro hz1 H
      exact okj_X12_common_213 v0 v2 v3 v4 v5 v6 v7 v8 hz1 K219 k HK219 Hk H
def l_X12_common_81 (v0 : Nat) (v2 : Int32) (v3 : Int32) (v4 : Int32) (v5 : Int32) (v6 : Int32) (v7 : Int32) (K219 : Hp → Option (Int32 × Hp)) (v8 : Int32) (h : Hp) : Option (Int32 × Hp) := loopK FUEL (fun (k : Int32 × Hp → Option (Int32 × Hp)) (s : Int32 × Hp) => b_X12_common_81 v0 v2 v3 v4 v5 v6 v7 K219 (fun v8q hq => k (v8q, hq)) s.1 s.2) (v8, h)
theorem okl_X12_common_81 {r : (Int32 × Hp)} (v0 : Nat) (v2 : Int32) (v3 : Int32) (v4 : Int32) (v5 : Int32) (v6 : Int32) (v7 : Int32) (K219 : Hp → Option (Int32 × Hp)) (v8 : Int32) (h : Hp) (HK219 : ∀   (hq : Hp), K219 hq = some r → Go M_X12_common (some (aI r.1), r.2) 219 [some (aA v0), none, none, none, none, none, some (aI v6), some (aI v7), none, none, none, none] [] hq) (H : l_X12_common_81 v0 v2 v3 v4 v5 v6 v7 K219 v8 h = some r) : Go M_X12_common (some (aI r.1), r.2) 81 [some (aA v0), none, some (aI v2), some (aI v3), some (aI v4), some (aI v5), some (aI v6), some (aI v7), some (aI v8), none, none, none] [] h := by
  unfold l_X12_common_81 at H
  exact go_loop (σ := Int32 × Hp) (body := (fun (k : Int32 × Hp → Option (Int32 × Hp)) (s : Int32 × Hp) => b_X12_common_81 v0 v2 v3 v4 v5 v6 v7 K219 (fun v8q hq => k (v8q, hq)) s.1 s.2)) (fun s => [some (aA v0), none, some (aI v2), some (aI v3), some (aI v4), some (aI v5), some (aI v6), some (aI v7), some (aI s.1), none, none, none]) (fun s => s.2) (fun k s Hk H => okb_X12_common_81 v0 v2 v3 v4 v5 v6 v7 K219 (fun v8q hq => k (v8q, hq)) s.1 s.2 HK219 (fun v8q hq H => Hk (v8q, hq) H) H) FUEL (v8, h) H
def j_X12_common_219 (v0 : Nat) (v6 : Int32) (v7 : Int32)  (h : Hp) : Option (Int32 × Hp) :=
  (gfR h v0 12 27).bind fun x1 => (alI h x1 (((21 : Int32) * v6) + v7)).bind fun x2 => some (x2, h)
set_option maxRecDepth 20000 in
theorem okj_X12_common_219 {r : (Int32 × Hp)} (v0 : Nat) (v6 : Int32) (v7 : Int32)  (h : Hp) (H : j_X12_common_219 v0 v6 v7 h = some r) : Go M_X12_common (some (aI r.1), r.2) 219 [some (aA v0), none, none, none, none, none, some (aI v6), some (aI v7), none, none, none, none] [] h := by
  unfold j_X12_common_219 at H
  refine go_aloadn dX12_common_219 rfl ?_
  refine gm_getR fd_X12_47 dX12_common_220 H (fun x1 H => ?_)
  refine go_bipush (v := (21 : Int32)) dX12_common_223 rfl ?_
  refine go_iload dX12_common_225 rfl ?_
  refine go_imul dX12_common_227 ?_
  refine go_iload dX12_common_228 rfl ?_
  refine go_iadd dX12_common_230 ?_
  refine gm_iald dX12_common_231 H (fun x2 H => ?_)
  obtain rfl := Option.some.inj H
  exact go_ireturn dX12_common_232 (tyI_int rfl)
def j_X12_common_60 (v0 : Nat) (v2 : Int32) (v3 : Int32) (v4 : Int32) (v5 : Int32)  (h : Hp) : Option (Int32 × Hp) :=
  (rc h v0 12 (m_X12_longOf v0 v2 v3 h)).bind fun x1 => (rc h v0 12 (m_X12_longOf v0 v4 v5 h)).bind fun x2 => l_X12_common_81 v0 v2 v3 v4 v5 x1 x2 (fun hz3 => j_X12_common_219 v0 x1 x2 hz3) (1 : Int32) h
set_option maxRecDepth 20000 in
theorem okj_X12_common_60 {r : (Int32 × Hp)} (v0 : Nat) (v2 : Int32) (v3 : Int32) (v4 : Int32) (v5 : Int32)  (h : Hp) (H : j_X12_common_60 v0 v2 v3 v4 v5 h = some r) : Go M_X12_common (some (aI r.1), r.2) 60 [some (aA v0), none, some (aI v2), some (aI v3), some (aI v4), some (aI v5), none, none, none, none, none, none] [] h := by
  unfold j_X12_common_60 at H
  refine go_aloadn dX12_common_60 rfl ?_
  refine go_iloadn dX12_common_61 rfl ?_
  refine go_iloadn dX12_common_62 rfl ?_
  obtain ⟨c1, x1, ex1, H⟩ := gm_rc H
  refine go_callV (vs := [aI v2, aI v3]) (stk := []) (o1 := (some (aI x1), h)) mk_X12_longOf sv_X12_common_269 cl_X12 rfl dX12_common_63 c1 rfl rfl (Nat.le_of_ble_eq_true rfl) (Nat.le_of_ble_eq_true rfl) (ok_X12_longOf ex1) (show Go M_X12_common (some (aI r.1), r.2) 66 [some (aA v0), none, some (aI v2), some (aI v3), some (aI v4), some (aI v5), none, none, none, none, none, none] [aI x1] h from ?_)
  refine go_istore (loc2 := [some (aA v0), none, some (aI v2), some (aI v3), some (aI v4), some (aI v5), some (aI x1), none, none, none, none, none]) dX12_common_66 (by decide) rfl ?_
  refine go_aloadn dX12_common_68 rfl ?_
  refine go_iload dX12_common_69 rfl ?_
  refine go_iload dX12_common_71 rfl ?_
  obtain ⟨c2, x2, ex2, H⟩ := gm_rc H
  refine go_callV (vs := [aI v4, aI v5]) (stk := []) (o1 := (some (aI x2), h)) mk_X12_longOf sv_X12_common_269 cl_X12 rfl dX12_common_73 c2 rfl rfl (Nat.le_of_ble_eq_true rfl) (Nat.le_of_ble_eq_true rfl) (ok_X12_longOf ex2) (show Go M_X12_common (some (aI r.1), r.2) 76 [some (aA v0), none, some (aI v2), some (aI v3), some (aI v4), some (aI v5), some (aI x1), none, none, none, none, none] [aI x2] h from ?_)
  refine go_istore (loc2 := [some (aA v0), none, some (aI v2), some (aI v3), some (aI v4), some (aI v5), some (aI x1), some (aI x2), none, none, none, none]) dX12_common_76 (by decide) rfl ?_
  refine go_iconst (v := (1 : Int32)) dX12_common_78 rfl ?_
  refine go_istore (loc2 := [some (aA v0), none, some (aI v2), some (aI v3), some (aI v4), some (aI v5), some (aI x1), some (aI x2), some (aI (1 : Int32)), none, none, none]) dX12_common_79 (by decide) rfl ?_
  refine okl_X12_common_81 v0 v2 v3 v4 v5 x1 x2 (fun hz3 => j_X12_common_219 v0 x1 x2 hz3) (1 : Int32) h ?_ H
  · intro hz3 H
    exact okj_X12_common_219 v0 x1 x2 hz3  H
def m_X12_common (v0 : Nat) (v1 : Int32) (v2 : Int32) (v3 : Int32) (v4 : Int32) (v5 : Int32) (h : Hp) : Option (Int32 × Hp) :=
  (pfI h v0 12 0 (0 : Int32)).bind fun hh1 => (rc hh1 v0 12 (m_X12_hand v0 v1 hh1)).bind fun x1 => if x1.1 = 0 then (some ((-1 : Int32), x1.2)) else (rc x1.2 v0 12 (m_X12_isVersion v0 v2 v3 x1.2)).bind fun x2 => if x2 = 0 then (some ((-1 : Int32), x1.2)) else (rc x1.2 v0 12 (m_X12_isVersion v0 v4 v5 x1.2)).bind fun x3 => if ¬ x3 = 0 then (l_X12_common_38 v0 v2 v3 v4 v5 (fun hz4 => j_X12_common_60 v0 v2 v3 v4 v5 hz4) (0 : Int32) x1.2) else some ((-1 : Int32), x1.2)
set_option maxRecDepth 20000 in
theorem ok_X12_common {r : (Int32 × Hp)} {v0 : Nat} {v1 : Int32} {v2 : Int32} {v3 : Int32} {v4 : Int32} {v5 : Int32} {h : Hp} (H : m_X12_common v0 v1 v2 v3 v4 v5 h = some r) : Ev M_X12_common [aA v0, aI v1, aI v2, aI v3, aI v4, aI v5] h (some (aI r.1), r.2) := by
  show Go M_X12_common (some (aI r.1), r.2) 0 [some (aA v0), some (aI v1), some (aI v2), some (aI v3), some (aI v4), some (aI v5), none, none, none, none, none, none] [] h
  unfold m_X12_common at H
  refine go_aloadn dX12_common_0 rfl ?_
  refine go_iconst (v := (0 : Int32)) dX12_common_1 rfl ?_
  refine gm_putI fd_X12_60 (Or.inl rfl) dX12_common_2 H (fun hh1 H => ?_)
  refine go_aloadn dX12_common_5 rfl ?_
  refine go_iloadn dX12_common_6 rfl ?_
  obtain ⟨c1, x1, ex1, H⟩ := gm_rc H
  refine go_callV (vs := [aI v1]) (stk := []) (o1 := (some (aI x1.1), x1.2)) mk_X12_hand sv_X12_common_313 cl_X12 rfl dX12_common_7 c1 rfl rfl (Nat.le_of_ble_eq_true rfl) (Nat.le_of_ble_eq_true rfl) (ok_X12_hand ex1) (show Go M_X12_common (some (aI r.1), r.2) 10 [some (aA v0), some (aI v1), some (aI v2), some (aI v3), some (aI v4), some (aI v5), none, none, none, none, none, none] [aI x1.1] x1.2 from ?_)
  refine go_if_eq (tgt := 33) dX12_common_10 (by decide) (fun c2 => ?_) (fun c2 => ?_)
  · replace H := (gm_ite H).1 c2
    refine go_iconst (v := (-1 : Int32)) dX12_common_33 rfl ?_
    obtain rfl := Option.some.inj H
    exact go_ireturn dX12_common_34 (tyI_int rfl)
  · replace H := (gm_ite H).2 c2
    refine go_aloadn dX12_common_13 rfl ?_
    refine go_iloadn dX12_common_14 rfl ?_
    refine go_iloadn dX12_common_15 rfl ?_
    obtain ⟨c3, x2, ex2, H⟩ := gm_rc H
    refine go_callV (vs := [aI v2, aI v3]) (stk := []) (o1 := (some (aI x2), x1.2)) mk_X12_isVersion sv_X12_common_284 cl_X12 rfl dX12_common_16 c3 rfl rfl (Nat.le_of_ble_eq_true rfl) (Nat.le_of_ble_eq_true rfl) (ok_X12_isVersion ex2) (show Go M_X12_common (some (aI r.1), r.2) 19 [some (aA v0), some (aI v1), some (aI v2), some (aI v3), some (aI v4), some (aI v5), none, none, none, none, none, none] [aI x2] x1.2 from ?_)
    refine go_if_eq (tgt := 33) dX12_common_19 (by decide) (fun c4 => ?_) (fun c4 => ?_)
    · replace H := (gm_ite H).1 c4
      refine go_iconst (v := (-1 : Int32)) dX12_common_33 rfl ?_
      obtain rfl := Option.some.inj H
      exact go_ireturn dX12_common_34 (tyI_int rfl)
    · replace H := (gm_ite H).2 c4
      refine go_aloadn dX12_common_22 rfl ?_
      refine go_iload dX12_common_23 rfl ?_
      refine go_iload dX12_common_25 rfl ?_
      obtain ⟨c5, x3, ex3, H⟩ := gm_rc H
      refine go_callV (vs := [aI v4, aI v5]) (stk := []) (o1 := (some (aI x3), x1.2)) mk_X12_isVersion sv_X12_common_284 cl_X12 rfl dX12_common_27 c5 rfl rfl (Nat.le_of_ble_eq_true rfl) (Nat.le_of_ble_eq_true rfl) (ok_X12_isVersion ex3) (show Go M_X12_common (some (aI r.1), r.2) 30 [some (aA v0), some (aI v1), some (aI v2), some (aI v3), some (aI v4), some (aI v5), none, none, none, none, none, none] [aI x3] x1.2 from ?_)
      refine go_if_ne (tgt := 35) dX12_common_30 (by decide) (fun c6 => ?_) (fun c6 => ?_)
      · replace H := (gm_ite H).1 c6
        refine go_iconst (v := (0 : Int32)) dX12_common_35 rfl ?_
        refine go_istore (loc2 := [some (aA v0), some (aI v1), some (aI v2), some (aI v3), some (aI v4), some (aI v5), some (aI (0 : Int32)), none, none, none, none, none]) dX12_common_36 (by decide) rfl ?_
        refine go_mask [true, false, true, true, true, true, true, false, false, false, false, false] (loc' := [some (aA v0), none, some (aI v2), some (aI v3), some (aI v4), some (aI v5), some (aI (0 : Int32)), none, none, none, none, none]) rfl ?_
        refine okl_X12_common_38 v0 v2 v3 v4 v5 (fun hz4 => j_X12_common_60 v0 v2 v3 v4 v5 hz4) (0 : Int32) x1.2 ?_ H
        · intro hz4 H
          exact okj_X12_common_60 v0 v2 v3 v4 v5 hz4  H
      · replace H := (gm_ite H).2 c6
        refine go_iconst (v := (-1 : Int32)) dX12_common_33 rfl ?_
        obtain rfl := Option.some.inj H
        exact go_ireturn dX12_common_34 (tyI_int rfl)
/-! X9_questionsAt -/
def j_X9_questionsAt_19  (s0 : Nat) (h : Hp) : Option Nat :=
  some s0
set_option maxRecDepth 20000 in
theorem okj_X9_questionsAt_19 {r : Nat}  (s0 : Nat) (h : Hp) (H : j_X9_questionsAt_19 s0 h = some r) : Go M_X9_questionsAt (some (aA r), h) 19 [none, none] [aA s0] h := by
  unfold j_X9_questionsAt_19 at H
  obtain rfl := Option.some.inj H
  exact go_areturn dX9_questionsAt_19 ⟨_, rfl, Or.inl ⟨_, rfl⟩⟩
def m_X9_questionsAt (v0 : Nat) (v1 : Int32) (h : Hp) : Option Nat :=
  (rc h v0 9 (m_X9_isTold v0 (1 : Int32) v1 h)).bind fun x1 => if x1 = 0 then (j_X9_questionsAt_19 0 h) else (gfR h v0 9 5).bind fun x2 => (alR h x2 25 v1).bind fun x3 => j_X9_questionsAt_19 x3 h
set_option maxRecDepth 20000 in
theorem ok_X9_questionsAt {r : Nat} {v0 : Nat} {v1 : Int32} {h : Hp} (H : m_X9_questionsAt v0 v1 h = some r) : Ev M_X9_questionsAt [aA v0, aI v1] h (some (aA r), h) := by
  show Go M_X9_questionsAt (some (aA r), h) 0 [some (aA v0), some (aI v1)] [] h
  unfold m_X9_questionsAt at H
  refine go_aloadn dX9_questionsAt_0 rfl ?_
  refine go_iconst (v := (1 : Int32)) dX9_questionsAt_1 rfl ?_
  refine go_iloadn dX9_questionsAt_2 rfl ?_
  obtain ⟨c1, x1, ex1, H⟩ := gm_rc H
  refine go_callV (vs := [aI (1 : Int32), aI v1]) (stk := []) (o1 := (some (aI x1), h)) mk_X9_isTold sv_X9_questionsAt_77 cl_X9 rfl dX9_questionsAt_3 c1 rfl rfl (Nat.le_of_ble_eq_true rfl) (Nat.le_of_ble_eq_true rfl) (ok_X9_isTold ex1) (show Go M_X9_questionsAt (some (aA r), h) 6 [some (aA v0), some (aI v1)] [aI x1] h from ?_)
  refine go_if_eq (tgt := 18) dX9_questionsAt_6 (by decide) (fun c2 => ?_) (fun c2 => ?_)
  · replace H := (gm_ite H).1 c2
    refine go_null dX9_questionsAt_18 ?_
    refine go_mask [false, false] (loc' := [none, none]) rfl ?_
    exact okj_X9_questionsAt_19 0 h  H
  · replace H := (gm_ite H).2 c2
    refine go_aloadn dX9_questionsAt_9 rfl ?_
    refine gm_getR fd_X9_37 dX9_questionsAt_10 H (fun x2 H => ?_)
    refine go_iloadn dX9_questionsAt_13 rfl ?_
    refine gm_aald (by decide) dX9_questionsAt_14 H (fun x3 H => ?_)
    refine go_goto (tgt := 19) dX9_questionsAt_15 (by decide) ?_
    refine go_mask [false, false] (loc' := [none, none]) rfl ?_
    exact okj_X9_questionsAt_19 x3 h  H
/-! X6_has -/
def j_X6_has_17  (s0 : Int32) (h : Hp) : Option Int32 :=
  (zb s0).bind fun x1 => some x1
set_option maxRecDepth 20000 in
theorem okj_X6_has_17 {r : Int32}  (s0 : Int32) (h : Hp) (H : j_X6_has_17 s0 h = some r) : Go M_X6_has (some (aI r), h) 17 [none, none] [aI s0] h := by
  unfold j_X6_has_17 at H
  obtain ⟨hz, H⟩ := gm_zb H
  obtain rfl := Option.some.inj H
  exact go_ireturn (x := s0) dX6_has_17 (tyI_bool rfl hz)
def m_X6_has (v0 : Nat) (v1 : Int32) (h : Hp) : Option Int32 :=
  if v1 < 0 then j_X6_has_17 (0 : Int32) h else (gfI h v0 6 0).bind fun x1 => j_X6_has_17 (if x1 ≤ v1 then (0 : Int32) else (1 : Int32)) h
set_option maxRecDepth 20000 in
theorem ok_X6_has {r : Int32} {v0 : Nat} {v1 : Int32} {h : Hp} (H : m_X6_has v0 v1 h = some r) : Ev M_X6_has [aA v0, aI v1] h (some (aI r), h) := by
  show Go M_X6_has (some (aI r), h) 0 [some (aA v0), some (aI v1)] [] h
  unfold m_X6_has at H
  refine go_iloadn dX6_has_0 rfl ?_
  refine go_if_lt (tgt := 16) dX6_has_1 (by decide) (fun c1 => ?_) (fun c1 => ?_)
  · replace H := (gm_ite H).1 c1
    refine go_iconst (v := (0 : Int32)) dX6_has_16 rfl ?_
    refine go_mask [false, false] (loc' := [none, none]) rfl ?_
    exact okj_X6_has_17 (0 : Int32) h  H
  · replace H := (gm_ite H).2 c1
    refine go_iloadn dX6_has_4 rfl ?_
    refine go_aloadn dX6_has_5 rfl ?_
    refine gm_getI fd_X6_9 dX6_has_6 H (fun x1 H => ?_)
    refine go_icmp_ge (tgt := 16) dX6_has_9 (by decide) (fun c2 => ?_) (fun c2 => ?_)
    · rw [if_pos c2] at H
      refine go_iconst (v := (0 : Int32)) dX6_has_16 rfl ?_
      refine go_mask [false, false] (loc' := [none, none]) rfl ?_
      exact okj_X6_has_17 (0 : Int32) h  H
    · rw [if_neg c2] at H
      refine go_iconst (v := (1 : Int32)) dX6_has_12 rfl ?_
      refine go_goto (tgt := 17) dX6_has_13 (by decide) ?_
      refine go_mask [false, false] (loc' := [none, none]) rfl ?_
      exact okj_X6_has_17 (1 : Int32) h  H
/-! X6_kindOf -/
def m_X6_kindOf (v0 : Nat) (v1 : Int32) (h : Hp) : Option Int32 :=
  (gfR h v0 6 1).bind fun x1 => (m_X5_at x1 v1 h).bind fun x2 => some x2
set_option maxRecDepth 20000 in
theorem ok_X6_kindOf {r : Int32} {v0 : Nat} {v1 : Int32} {h : Hp} (H : m_X6_kindOf v0 v1 h = some r) : Ev M_X6_kindOf [aA v0, aI v1] h (some (aI r), h) := by
  show Go M_X6_kindOf (some (aI r), h) 0 [some (aA v0), some (aI v1)] [] h
  unfold m_X6_kindOf at H
  refine go_aloadn dX6_kindOf_0 rfl ?_
  refine gm_getR fd_X6_15 dX6_kindOf_1 H (fun x1 H => ?_)
  refine go_iloadn dX6_kindOf_4 rfl ?_
  obtain ⟨x2, ex2, H⟩ := bind_some H
  refine go_callS (vs := [aA x1, aI v1]) (stk := []) (o1 := (some (aI x2), h)) mk_X5_at ss_X6_kindOf_60 dX6_kindOf_5 rfl rfl (Nat.le_of_ble_eq_true rfl) (Nat.le_of_ble_eq_true rfl) (ok_X5_at ex2) (show Go M_X6_kindOf (some (aI r), h) 8 [some (aA v0), some (aI v1)] [aI x2] h from ?_)
  obtain rfl := Option.some.inj H
  exact go_ireturn dX6_kindOf_8 (tyI_int rfl)
/-! X6_numberOf -/
def m_X6_numberOf (v0 : Nat) (v1 : Int32) (v2 : Int32) (h : Hp) : Option Int32 :=
  (gfR h v0 6 2).bind fun x1 => (m_X5_at x1 ((v1 * (2 : Int32)) + v2) h).bind fun x2 => some x2
set_option maxRecDepth 20000 in
theorem ok_X6_numberOf {r : Int32} {v0 : Nat} {v1 : Int32} {v2 : Int32} {h : Hp} (H : m_X6_numberOf v0 v1 v2 h = some r) : Ev M_X6_numberOf [aA v0, aI v1, aI v2] h (some (aI r), h) := by
  show Go M_X6_numberOf (some (aI r), h) 0 [some (aA v0), some (aI v1), some (aI v2)] [] h
  unfold m_X6_numberOf at H
  refine go_aloadn dX6_numberOf_0 rfl ?_
  refine gm_getR fd_X6_19 dX6_numberOf_1 H (fun x1 H => ?_)
  refine go_iloadn dX6_numberOf_4 rfl ?_
  refine go_iconst (v := (2 : Int32)) dX6_numberOf_5 rfl ?_
  refine go_imul dX6_numberOf_6 ?_
  refine go_iloadn dX6_numberOf_7 rfl ?_
  refine go_iadd dX6_numberOf_8 ?_
  obtain ⟨x2, ex2, H⟩ := bind_some H
  refine go_callS (vs := [aA x1, aI ((v1 * (2 : Int32)) + v2)]) (stk := []) (o1 := (some (aI x2), h)) mk_X5_at ss_X6_numberOf_60 dX6_numberOf_9 rfl rfl (Nat.le_of_ble_eq_true rfl) (Nat.le_of_ble_eq_true rfl) (ok_X5_at ex2) (show Go M_X6_numberOf (some (aI r), h) 12 [some (aA v0), some (aI v1), some (aI v2)] [aI x2] h from ?_)
  obtain rfl := Option.some.inj H
  exact go_ireturn dX6_numberOf_12 (tyI_int rfl)
/-! X6_wordOf -/
def m_X6_wordOf (v0 : Nat) (v1 : Int32) (v2 : Int32) (h : Hp) : Option Int32 :=
  (gfR h v0 6 4).bind fun x1 => (m_X5_at x1 ((v1 * (4 : Int32)) + v2) h).bind fun x2 => some x2
set_option maxRecDepth 20000 in
theorem ok_X6_wordOf {r : Int32} {v0 : Nat} {v1 : Int32} {v2 : Int32} {h : Hp} (H : m_X6_wordOf v0 v1 v2 h = some r) : Ev M_X6_wordOf [aA v0, aI v1, aI v2] h (some (aI r), h) := by
  show Go M_X6_wordOf (some (aI r), h) 0 [some (aA v0), some (aI v1), some (aI v2)] [] h
  unfold m_X6_wordOf at H
  refine go_aloadn dX6_wordOf_0 rfl ?_
  refine gm_getR fd_X6_25 dX6_wordOf_1 H (fun x1 H => ?_)
  refine go_iloadn dX6_wordOf_4 rfl ?_
  refine go_iconst (v := (4 : Int32)) dX6_wordOf_5 rfl ?_
  refine go_imul dX6_wordOf_6 ?_
  refine go_iloadn dX6_wordOf_7 rfl ?_
  refine go_iadd dX6_wordOf_8 ?_
  obtain ⟨x2, ex2, H⟩ := bind_some H
  refine go_callS (vs := [aA x1, aI ((v1 * (4 : Int32)) + v2)]) (stk := []) (o1 := (some (aI x2), h)) mk_X5_at ss_X6_wordOf_60 dX6_wordOf_9 rfl rfl (Nat.le_of_ble_eq_true rfl) (Nat.le_of_ble_eq_true rfl) (ok_X5_at ex2) (show Go M_X6_wordOf (some (aI r), h) 12 [some (aA v0), some (aI v1), some (aI v2)] [aI x2] h from ?_)
  obtain rfl := Option.some.inj H
  exact go_ireturn dX6_wordOf_12 (tyI_int rfl)
/-! X11_question -/
def j_X11_question_136  (s0 : Int32) (h : Hp) : Option Int32 :=
  some s0
set_option maxRecDepth 20000 in
theorem okj_X11_question_136 {r : Int32}  (s0 : Int32) (h : Hp) (H : j_X11_question_136 s0 h = some r) : Go M_X11_question (some (aI r), h) 136 [none, none, none, none, none] [aI s0] h := by
  unfold j_X11_question_136 at H
  obtain rfl := Option.some.inj H
  exact go_ireturn dX11_question_136 (tyI_int rfl)
def j_X11_question_37  (s0 : Int32) (h : Hp) : Option Int32 :=
  some s0
set_option maxRecDepth 20000 in
theorem okj_X11_question_37 {r : Int32}  (s0 : Int32) (h : Hp) (H : j_X11_question_37 s0 h = some r) : Go M_X11_question (some (aI r), h) 37 [none, none, none, none, none] [aI s0] h := by
  unfold j_X11_question_37 at H
  obtain rfl := Option.some.inj H
  exact go_ireturn dX11_question_37 (tyI_int rfl)
def m_X11_question (v0 : Nat) (v1 : Int32) (v2 : Int32) (v3 : Int32) (h : Hp) : Option Int32 :=
  (gfR h v0 11 0).bind fun x1 => (rc h x1 9 (m_X9_questionsAt x1 v1 h)).bind fun x2 => (nz x2).bind fun _ => if ¬ x2 = 0 then (if ¬ v2 = (-1 : Int32) then ((rc h x2 6 (m_X6_has x2 v2 h)).bind fun x3 => if ¬ x3 = 0 then (if v3 = (0 : Int32) then ((rc h x2 6 (m_X6_kindOf x2 v2 h)).bind fun x4 => some x4) else if v3 = (1 : Int32) then ((rc h x2 6 (m_X6_numberOf x2 v2 (0 : Int32) h)).bind fun x5 => some x5) else if v3 = (2 : Int32) then ((rc h x2 6 (m_X6_numberOf x2 v2 (1 : Int32) h)).bind fun x6 => some x6) else if v3 < (10 : Int32) then j_X11_question_136 (-2 : Int32) h else (rc h x2 6 (m_X6_wordsOf x2 v2 h)).bind fun x7 => if x7 ≤ (v3 - (10 : Int32)) then j_X11_question_136 (-2 : Int32) h else (rc h x2 6 (m_X6_wordOf x2 v2 (v3 - (10 : Int32)) h)).bind fun x8 => (m_X5_wordNumber x8 h).bind fun x9 => j_X11_question_136 x9 h) else some (-2 : Int32)) else if ¬ v3 = 0 then j_X11_question_37 (-2 : Int32) h else (gfI h x2 6 0).bind fun x10 => j_X11_question_37 x10 h) else some (-2 : Int32)
set_option maxRecDepth 20000 in
theorem ok_X11_question {r : Int32} {v0 : Nat} {v1 : Int32} {v2 : Int32} {v3 : Int32} {h : Hp} (H : m_X11_question v0 v1 v2 v3 h = some r) : Ev M_X11_question [aA v0, aI v1, aI v2, aI v3] h (some (aI r), h) := by
  show Go M_X11_question (some (aI r), h) 0 [some (aA v0), some (aI v1), some (aI v2), some (aI v3), none] [] h
  unfold m_X11_question at H
  refine go_aloadn dX11_question_0 rfl ?_
  refine gm_getR fd_X11_10 dX11_question_1 H (fun x1 H => ?_)
  refine go_iloadn dX11_question_4 rfl ?_
  obtain ⟨c1, x2, ex2, H⟩ := gm_rc H
  refine go_callV (vs := [aI v1]) (stk := []) (o1 := (some (aA x2), h)) mk_X9_questionsAt sv_X11_question_231 cl_X9 rfl dX11_question_5 c1 rfl rfl (Nat.le_of_ble_eq_true rfl) (Nat.le_of_ble_eq_true rfl) (ok_X9_questionsAt ex2) (show Go M_X11_question (some (aI r), h) 8 [some (aA v0), some (aI v1), some (aI v2), some (aI v3), none] [aA x2] h from ?_)
  refine go_astore (loc2 := [some (aA v0), some (aI v1), some (aI v2), some (aI v3), some (aA x2)]) dX11_question_8 (by decide) rfl ?_
  refine go_aload dX11_question_10 rfl ?_
  obtain ⟨c3, H⟩ := gm_nz H
  refine go_ifnonnull (tgt := 18) dX11_question_12 (by decide) c3 (fun c2 => ?_) (fun c2 => ?_)
  · replace H := (gm_ite H).1 c2
    refine go_iloadn dX11_question_18 rfl ?_
    refine go_iconst (v := (-1 : Int32)) dX11_question_19 rfl ?_
    refine go_icmp_ne (tgt := 38) dX11_question_20 (by decide) (fun c4 => ?_) (fun c4 => ?_)
    · replace H := (gm_ite H).1 c4
      refine go_aload dX11_question_38 rfl ?_
      refine go_iloadn dX11_question_40 rfl ?_
      obtain ⟨c5, x3, ex3, H⟩ := gm_rc H
      refine go_callV (vs := [aI v2]) (stk := []) (o1 := (some (aI x3), h)) mk_X6_has sv_X11_question_239 cl_X6 rfl dX11_question_41 c5 rfl rfl (Nat.le_of_ble_eq_true rfl) (Nat.le_of_ble_eq_true rfl) (ok_X6_has ex3) (show Go M_X11_question (some (aI r), h) 44 [some (aA v0), some (aI v1), some (aI v2), some (aI v3), some (aA x2)] [aI x3] h from ?_)
      refine go_if_ne (tgt := 50) dX11_question_44 (by decide) (fun c6 => ?_) (fun c6 => ?_)
      · replace H := (gm_ite H).1 c6
        refine go_iloadn dX11_question_50 rfl ?_
        by_cases c7 : v3 = (0 : Int32)
        · replace H := (gm_ite H).1 c7
          refine go_eqI c7 ?_
          refine go_tableIn (tgt := 76) dX11_question_51 (by decide) (by decide) rfl (by decide) ?_
          refine go_aload dX11_question_76 rfl ?_
          refine go_iloadn dX11_question_78 rfl ?_
          obtain ⟨c8, x4, ex4, H⟩ := gm_rc H
          refine go_callV (vs := [aI v2]) (stk := []) (o1 := (some (aI x4), h)) mk_X6_kindOf sv_X11_question_242 cl_X6 rfl dX11_question_79 c8 rfl rfl (Nat.le_of_ble_eq_true rfl) (Nat.le_of_ble_eq_true rfl) (ok_X6_kindOf ex4) (show Go M_X11_question (some (aI r), h) 82 [some (aA v0), some (aI v1), some (aI v2), some (aI v3), some (aA x2)] [aI x4] h from ?_)
          obtain rfl := Option.some.inj H
          exact go_ireturn dX11_question_82 (tyI_int rfl)
        · replace H := (gm_ite H).2 c7
          by_cases c9 : v3 = (1 : Int32)
          · replace H := (gm_ite H).1 c9
            refine go_eqI c9 ?_
            refine go_tableIn (tgt := 83) dX11_question_51 (by decide) (by decide) rfl (by decide) ?_
            refine go_aload dX11_question_83 rfl ?_
            refine go_iloadn dX11_question_85 rfl ?_
            refine go_iconst (v := (0 : Int32)) dX11_question_86 rfl ?_
            obtain ⟨c10, x5, ex5, H⟩ := gm_rc H
            refine go_callV (vs := [aI v2, aI (0 : Int32)]) (stk := []) (o1 := (some (aI x5), h)) mk_X6_numberOf sv_X11_question_245 cl_X6 rfl dX11_question_87 c10 rfl rfl (Nat.le_of_ble_eq_true rfl) (Nat.le_of_ble_eq_true rfl) (ok_X6_numberOf ex5) (show Go M_X11_question (some (aI r), h) 90 [some (aA v0), some (aI v1), some (aI v2), some (aI v3), some (aA x2)] [aI x5] h from ?_)
            obtain rfl := Option.some.inj H
            exact go_ireturn dX11_question_90 (tyI_int rfl)
          · replace H := (gm_ite H).2 c9
            by_cases c11 : v3 = (2 : Int32)
            · replace H := (gm_ite H).1 c11
              refine go_eqI c11 ?_
              refine go_tableIn (tgt := 91) dX11_question_51 (by decide) (by decide) rfl (by decide) ?_
              refine go_aload dX11_question_91 rfl ?_
              refine go_iloadn dX11_question_93 rfl ?_
              refine go_iconst (v := (1 : Int32)) dX11_question_94 rfl ?_
              obtain ⟨c12, x6, ex6, H⟩ := gm_rc H
              refine go_callV (vs := [aI v2, aI (1 : Int32)]) (stk := []) (o1 := (some (aI x6), h)) mk_X6_numberOf sv_X11_question_245 cl_X6 rfl dX11_question_95 c12 rfl rfl (Nat.le_of_ble_eq_true rfl) (Nat.le_of_ble_eq_true rfl) (ok_X6_numberOf ex6) (show Go M_X11_question (some (aI r), h) 98 [some (aA v0), some (aI v1), some (aI v2), some (aI v3), some (aA x2)] [aI x6] h from ?_)
              obtain rfl := Option.some.inj H
              exact go_ireturn dX11_question_98 (tyI_int rfl)
            · replace H := (gm_ite H).2 c11
              refine go_tableOut (tgt := 99) dX11_question_51 (sw_out (fun i h1 h2 e => ?_)) (by decide) ?_
              · have h3 : i = 0 ∨ i = 1 ∨ i = 2 := by omega
                rcases h3 with rfl | rfl | rfl
                · exact sw_ne c7 (by decide) e
                · exact sw_ne c9 (by decide) e
                · exact sw_ne c11 (by decide) e
              · skip
                refine go_iloadn dX11_question_99 rfl ?_
                refine go_bipush (v := (10 : Int32)) dX11_question_100 rfl ?_
                refine go_icmp_lt (tgt := 134) dX11_question_102 (by decide) (fun c13 => ?_) (fun c13 => ?_)
                · replace H := (gm_ite H).1 c13
                  refine go_bipush (v := (-2 : Int32)) dX11_question_134 rfl ?_
                  refine go_mask [false, false, false, false, false] (loc' := [none, none, none, none, none]) rfl ?_
                  exact okj_X11_question_136 (-2 : Int32) h  H
                · replace H := (gm_ite H).2 c13
                  refine go_iloadn dX11_question_105 rfl ?_
                  refine go_bipush (v := (10 : Int32)) dX11_question_106 rfl ?_
                  refine go_isub dX11_question_108 ?_
                  refine go_aload dX11_question_109 rfl ?_
                  refine go_iloadn dX11_question_111 rfl ?_
                  obtain ⟨c14, x7, ex7, H⟩ := gm_rc H
                  refine go_callV (vs := [aI v2]) (stk := [aI (v3 - (10 : Int32))]) (o1 := (some (aI x7), h)) mk_X6_wordsOf sv_X11_question_248 cl_X6 rfl dX11_question_112 c14 rfl rfl (Nat.le_of_ble_eq_true rfl) (Nat.le_of_ble_eq_true rfl) (ok_X6_wordsOf ex7) (show Go M_X11_question (some (aI r), h) 115 [some (aA v0), some (aI v1), some (aI v2), some (aI v3), some (aA x2)] [aI x7, aI (v3 - (10 : Int32))] h from ?_)
                  refine go_icmp_ge (tgt := 134) dX11_question_115 (by decide) (fun c15 => ?_) (fun c15 => ?_)
                  · replace H := (gm_ite H).1 c15
                    refine go_bipush (v := (-2 : Int32)) dX11_question_134 rfl ?_
                    refine go_mask [false, false, false, false, false] (loc' := [none, none, none, none, none]) rfl ?_
                    exact okj_X11_question_136 (-2 : Int32) h  H
                  · replace H := (gm_ite H).2 c15
                    refine go_aload dX11_question_118 rfl ?_
                    refine go_iloadn dX11_question_120 rfl ?_
                    refine go_iloadn dX11_question_121 rfl ?_
                    refine go_bipush (v := (10 : Int32)) dX11_question_122 rfl ?_
                    refine go_isub dX11_question_124 ?_
                    obtain ⟨c16, x8, ex8, H⟩ := gm_rc H
                    refine go_callV (vs := [aI v2, aI (v3 - (10 : Int32))]) (stk := []) (o1 := (some (aI x8), h)) mk_X6_wordOf sv_X11_question_251 cl_X6 rfl dX11_question_125 c16 rfl rfl (Nat.le_of_ble_eq_true rfl) (Nat.le_of_ble_eq_true rfl) (ok_X6_wordOf ex8) (show Go M_X11_question (some (aI r), h) 128 [some (aA v0), some (aI v1), some (aI v2), some (aI v3), some (aA x2)] [aI x8] h from ?_)
                    obtain ⟨x9, ex9, H⟩ := bind_some H
                    refine go_callS (vs := [aI x8]) (stk := []) (o1 := (some (aI x9), h)) mk_X5_wordNumber ss_X11_question_199 dX11_question_128 rfl rfl (Nat.le_of_ble_eq_true rfl) (Nat.le_of_ble_eq_true rfl) (ok_X5_wordNumber ex9) (show Go M_X11_question (some (aI r), h) 131 [some (aA v0), some (aI v1), some (aI v2), some (aI v3), some (aA x2)] [aI x9] h from ?_)
                    refine go_goto (tgt := 136) dX11_question_131 (by decide) ?_
                    refine go_mask [false, false, false, false, false] (loc' := [none, none, none, none, none]) rfl ?_
                    exact okj_X11_question_136 x9 h  H
      · replace H := (gm_ite H).2 c6
        refine go_bipush (v := (-2 : Int32)) dX11_question_47 rfl ?_
        obtain rfl := Option.some.inj H
        exact go_ireturn dX11_question_49 (tyI_int rfl)
    · replace H := (gm_ite H).2 c4
      refine go_iloadn dX11_question_23 rfl ?_
      refine go_if_ne (tgt := 35) dX11_question_24 (by decide) (fun c18 => ?_) (fun c18 => ?_)
      · replace H := (gm_ite H).1 c18
        refine go_bipush (v := (-2 : Int32)) dX11_question_35 rfl ?_
        refine go_mask [false, false, false, false, false] (loc' := [none, none, none, none, none]) rfl ?_
        exact okj_X11_question_37 (-2 : Int32) h  H
      · replace H := (gm_ite H).2 c18
        refine go_aload dX11_question_27 rfl ?_
        refine gm_getI fd_X11_235 dX11_question_29 H (fun x10 H => ?_)
        refine go_goto (tgt := 37) dX11_question_32 (by decide) ?_
        refine go_mask [false, false, false, false, false] (loc' := [none, none, none, none, none]) rfl ?_
        exact okj_X11_question_37 x10 h  H
  · replace H := (gm_ite H).2 (fun q => q c2)
    refine go_bipush (v := (-2 : Int32)) dX11_question_15 rfl ?_
    obtain rfl := Option.some.inj H
    exact go_ireturn dX11_question_17 (tyI_int rfl)
/-! X12_hasAsking -/
def m_X12_hasAsking (v0 : Nat) (v1 : Int32) (h : Hp) : Option (Int32 × Hp) :=
  (pfI h v0 12 28 v1).bind fun hh1 => (rc hh1 v0 12 (m_X12_is v0 (1 : Int32) v1 hh1)).bind fun x1 => (zb x1).bind fun x2 => some (x2, hh1)
set_option maxRecDepth 20000 in
theorem ok_X12_hasAsking {r : (Int32 × Hp)} {v0 : Nat} {v1 : Int32} {h : Hp} (H : m_X12_hasAsking v0 v1 h = some r) : Ev M_X12_hasAsking [aA v0, aI v1] h (some (aI r.1), r.2) := by
  show Go M_X12_hasAsking (some (aI r.1), r.2) 0 [some (aA v0), some (aI v1)] [] h
  unfold m_X12_hasAsking at H
  refine go_aloadn dX12_hasAsking_0 rfl ?_
  refine go_iloadn dX12_hasAsking_1 rfl ?_
  refine gm_putI fd_X12_368 (Or.inl rfl) dX12_hasAsking_2 H (fun hh1 H => ?_)
  refine go_aloadn dX12_hasAsking_5 rfl ?_
  refine go_iconst (v := (1 : Int32)) dX12_hasAsking_6 rfl ?_
  refine go_iloadn dX12_hasAsking_7 rfl ?_
  obtain ⟨c1, x1, ex1, H⟩ := gm_rc H
  refine go_callV (vs := [aI (1 : Int32), aI v1]) (stk := []) (o1 := (some (aI x1), hh1)) mk_X12_is sv_X12_hasAsking_243 cl_X12 rfl dX12_hasAsking_8 c1 rfl rfl (Nat.le_of_ble_eq_true rfl) (Nat.le_of_ble_eq_true rfl) (ok_X12_is ex1) (show Go M_X12_hasAsking (some (aI r.1), r.2) 11 [some (aA v0), some (aI v1)] [aI x1] hh1 from ?_)
  obtain ⟨hz, H⟩ := gm_zb H
  obtain rfl := Option.some.inj H
  exact go_ireturn (x := x1) dX12_hasAsking_11 (tyI_bool rfl hz)
/-! X12_askedMany -/
def m_X12_askedMany (v0 : Nat) (h : Hp) : Option Int32 :=
  (gfR h v0 12 7).bind fun x1 => (gfI h v0 12 28).bind fun x2 => (alI h x1 ((57 : Int32) * x2)).bind fun x3 => some x3
set_option maxRecDepth 20000 in
theorem ok_X12_askedMany {r : Int32} {v0 : Nat} {h : Hp} (H : m_X12_askedMany v0 h = some r) : Ev M_X12_askedMany [aA v0] h (some (aI r), h) := by
  show Go M_X12_askedMany (some (aI r), h) 0 [some (aA v0)] [] h
  unfold m_X12_askedMany at H
  refine go_aloadn dX12_askedMany_0 rfl ?_
  refine gm_getR fd_X12_29 dX12_askedMany_1 H (fun x1 H => ?_)
  refine go_bipush (v := (57 : Int32)) dX12_askedMany_4 rfl ?_
  refine go_aloadn dX12_askedMany_6 rfl ?_
  refine gm_getI fd_X12_368 dX12_askedMany_7 H (fun x2 H => ?_)
  refine go_imul dX12_askedMany_10 ?_
  refine gm_iald dX12_askedMany_11 H (fun x3 H => ?_)
  obtain rfl := Option.some.inj H
  exact go_ireturn dX12_askedMany_12 (tyI_int rfl)
/-! X12_ofAsking -/
def m_X12_ofAsking (v0 : Nat) (v1 : Int32) (v2 : Int32) (h : Hp) : Option Int32 :=
  (gfR h v0 12 7).bind fun x1 => (gfI h v0 12 28).bind fun x2 => (alI h x1 (((((57 : Int32) * x2) + (1 : Int32)) + ((7 : Int32) * v1)) + v2)).bind fun x3 => some x3
set_option maxRecDepth 20000 in
theorem ok_X12_ofAsking {r : Int32} {v0 : Nat} {v1 : Int32} {v2 : Int32} {h : Hp} (H : m_X12_ofAsking v0 v1 v2 h = some r) : Ev M_X12_ofAsking [aA v0, aI v1, aI v2] h (some (aI r), h) := by
  show Go M_X12_ofAsking (some (aI r), h) 0 [some (aA v0), some (aI v1), some (aI v2)] [] h
  unfold m_X12_ofAsking at H
  refine go_aloadn dX12_ofAsking_0 rfl ?_
  refine gm_getR fd_X12_29 dX12_ofAsking_1 H (fun x1 H => ?_)
  refine go_bipush (v := (57 : Int32)) dX12_ofAsking_4 rfl ?_
  refine go_aloadn dX12_ofAsking_6 rfl ?_
  refine gm_getI fd_X12_368 dX12_ofAsking_7 H (fun x2 H => ?_)
  refine go_imul dX12_ofAsking_10 ?_
  refine go_iconst (v := (1 : Int32)) dX12_ofAsking_11 rfl ?_
  refine go_iadd dX12_ofAsking_12 ?_
  refine go_bipush (v := (7 : Int32)) dX12_ofAsking_13 rfl ?_
  refine go_iloadn dX12_ofAsking_15 rfl ?_
  refine go_imul dX12_ofAsking_16 ?_
  refine go_iadd dX12_ofAsking_17 ?_
  refine go_iloadn dX12_ofAsking_18 rfl ?_
  refine go_iadd dX12_ofAsking_19 ?_
  refine gm_iald dX12_ofAsking_20 H (fun x3 H => ?_)
  obtain rfl := Option.some.inj H
  exact go_ireturn dX12_ofAsking_21 (tyI_int rfl)
/-! X12_wordsOf -/
def j_X12_wordsOf_39  (s0 : Int32) (h : Hp) : Option Int32 :=
  some s0
set_option maxRecDepth 20000 in
theorem okj_X12_wordsOf_39 {r : Int32}  (s0 : Int32) (h : Hp) (H : j_X12_wordsOf_39 s0 h = some r) : Go M_X12_wordsOf (some (aI r), h) 39 [none, none, none] [aI s0] h := by
  unfold j_X12_wordsOf_39 at H
  obtain rfl := Option.some.inj H
  exact go_ireturn dX12_wordsOf_39 (tyI_int rfl)
def m_X12_wordsOf (v0 : Nat) (v1 : Int32) (h : Hp) : Option Int32 :=
  (rc h v0 12 (m_X12_ofAsking v0 v1 (0 : Int32) h)).bind fun x1 => if ¬ x1 = 0 then j_X12_wordsOf_39 (if ¬ x1 = (1 : Int32) then (if ¬ x1 = (2 : Int32) then (0 : Int32) else (1 : Int32)) else (2 : Int32)) h else (rc h v0 12 (m_X12_ofAsking v0 v1 (1 : Int32) h)).bind fun x2 => j_X12_wordsOf_39 x2 h
set_option maxRecDepth 20000 in
theorem ok_X12_wordsOf {r : Int32} {v0 : Nat} {v1 : Int32} {h : Hp} (H : m_X12_wordsOf v0 v1 h = some r) : Ev M_X12_wordsOf [aA v0, aI v1] h (some (aI r), h) := by
  show Go M_X12_wordsOf (some (aI r), h) 0 [some (aA v0), some (aI v1), none] [] h
  unfold m_X12_wordsOf at H
  refine go_aloadn dX12_wordsOf_0 rfl ?_
  refine go_iloadn dX12_wordsOf_1 rfl ?_
  refine go_iconst (v := (0 : Int32)) dX12_wordsOf_2 rfl ?_
  obtain ⟨c1, x1, ex1, H⟩ := gm_rc H
  refine go_callV (vs := [aI v1, aI (0 : Int32)]) (stk := []) (o1 := (some (aI x1), h)) mk_X12_ofAsking sv_X12_wordsOf_371 cl_X12 rfl dX12_wordsOf_3 c1 rfl rfl (Nat.le_of_ble_eq_true rfl) (Nat.le_of_ble_eq_true rfl) (ok_X12_ofAsking ex1) (show Go M_X12_wordsOf (some (aI r), h) 6 [some (aA v0), some (aI v1), none] [aI x1] h from ?_)
  refine go_istoren (loc2 := [some (aA v0), some (aI v1), some (aI x1)]) dX12_wordsOf_6 rfl (by decide) rfl ?_
  refine go_iloadn dX12_wordsOf_7 rfl ?_
  refine go_if_ne (tgt := 20) dX12_wordsOf_8 (by decide) (fun c2 => ?_) (fun c2 => ?_)
  · replace H := (gm_ite H).1 c2
    refine go_iloadn dX12_wordsOf_20 rfl ?_
    refine go_iconst (v := (1 : Int32)) dX12_wordsOf_21 rfl ?_
    refine go_icmp_ne (tgt := 29) dX12_wordsOf_22 (by decide) (fun c3 => ?_) (fun c3 => ?_)
    · rw [if_pos c3] at H
      refine go_iloadn dX12_wordsOf_29 rfl ?_
      refine go_iconst (v := (2 : Int32)) dX12_wordsOf_30 rfl ?_
      refine go_icmp_ne (tgt := 38) dX12_wordsOf_31 (by decide) (fun c4 => ?_) (fun c4 => ?_)
      · rw [if_pos c4] at H
        refine go_iconst (v := (0 : Int32)) dX12_wordsOf_38 rfl ?_
        refine go_mask [false, false, false] (loc' := [none, none, none]) rfl ?_
        exact okj_X12_wordsOf_39 (0 : Int32) h  H
      · rw [if_neg c4] at H
        refine go_iconst (v := (1 : Int32)) dX12_wordsOf_34 rfl ?_
        refine go_goto (tgt := 39) dX12_wordsOf_35 (by decide) ?_
        refine go_mask [false, false, false] (loc' := [none, none, none]) rfl ?_
        exact okj_X12_wordsOf_39 (1 : Int32) h  H
    · rw [if_neg c3] at H
      refine go_iconst (v := (2 : Int32)) dX12_wordsOf_25 rfl ?_
      refine go_goto (tgt := 39) dX12_wordsOf_26 (by decide) ?_
      refine go_mask [false, false, false] (loc' := [none, none, none]) rfl ?_
      exact okj_X12_wordsOf_39 (2 : Int32) h  H
  · replace H := (gm_ite H).2 c2
    refine go_aloadn dX12_wordsOf_11 rfl ?_
    refine go_iloadn dX12_wordsOf_12 rfl ?_
    refine go_iconst (v := (1 : Int32)) dX12_wordsOf_13 rfl ?_
    obtain ⟨c5, x2, ex2, H⟩ := gm_rc H
    refine go_callV (vs := [aI v1, aI (1 : Int32)]) (stk := []) (o1 := (some (aI x2), h)) mk_X12_ofAsking sv_X12_wordsOf_371 cl_X12 rfl dX12_wordsOf_14 c5 rfl rfl (Nat.le_of_ble_eq_true rfl) (Nat.le_of_ble_eq_true rfl) (ok_X12_ofAsking ex2) (show Go M_X12_wordsOf (some (aI r), h) 17 [some (aA v0), some (aI v1), some (aI x1)] [aI x2] h from ?_)
    refine go_goto (tgt := 39) dX12_wordsOf_17 (by decide) ?_
    refine go_mask [false, false, false] (loc' := [none, none, none]) rfl ?_
    exact okj_X12_wordsOf_39 x2 h  H
/-! X12_question -/
def j_X12_question_107  (s0 : Int32) (h : Hp) : Option (Int32 × Hp) :=
  some (s0, h)
set_option maxRecDepth 20000 in
theorem okj_X12_question_107 {r : (Int32 × Hp)}  (s0 : Int32) (h : Hp) (H : j_X12_question_107 s0 h = some r) : Go M_X12_question (some (aI r.1), r.2) 107 [none, none, none, none] [aI s0] h := by
  unfold j_X12_question_107 at H
  obtain rfl := Option.some.inj H
  exact go_ireturn dX12_question_107 (tyI_int rfl)
def j_X12_question_86  (s0 : Int32) (h : Hp) : Option (Int32 × Hp) :=
  some (s0, h)
set_option maxRecDepth 20000 in
theorem okj_X12_question_86 {r : (Int32 × Hp)}  (s0 : Int32) (h : Hp) (H : j_X12_question_86 s0 h = some r) : Go M_X12_question (some (aI r.1), r.2) 86 [none, none, none, none] [aI s0] h := by
  unfold j_X12_question_86 at H
  obtain rfl := Option.some.inj H
  exact go_ireturn dX12_question_86 (tyI_int rfl)
def j_X12_question_34  (s0 : Int32) (h : Hp) : Option (Int32 × Hp) :=
  some (s0, h)
set_option maxRecDepth 20000 in
theorem okj_X12_question_34 {r : (Int32 × Hp)}  (s0 : Int32) (h : Hp) (H : j_X12_question_34 s0 h = some r) : Go M_X12_question (some (aI r.1), r.2) 34 [none, none, none, none] [aI s0] h := by
  unfold j_X12_question_34 at H
  obtain rfl := Option.some.inj H
  exact go_ireturn dX12_question_34 (tyI_int rfl)
def m_X12_question (v0 : Nat) (v1 : Int32) (v2 : Int32) (v3 : Int32) (h : Hp) : Option (Int32 × Hp) :=
  (pfI h v0 12 0 (0 : Int32)).bind fun hh1 => (rc hh1 v0 12 (m_X12_hasAsking v0 v1 hh1)).bind fun x1 => if ¬ x1.1 = 0 then (if ¬ v2 = (-1 : Int32) then ((rc x1.2 v0 12 (m_X12_askedMany v0 x1.2)).bind fun x2 => (m_X12_in v2 (0 : Int32) (x2 - (1 : Int32)) x1.2).bind fun x3 => if ¬ x3 = 0 then (if v3 < (10 : Int32) then ((m_X12_in v3 (0 : Int32) (2 : Int32) x1.2).bind fun x4 => if x4 = 0 then j_X12_question_107 (-2 : Int32) x1.2 else (rc x1.2 v0 12 (m_X12_ofAsking v0 v2 v3 x1.2)).bind fun x5 => j_X12_question_107 x5 x1.2) else (rc x1.2 v0 12 (m_X12_wordsOf v0 v2 x1.2)).bind fun x6 => if x6 ≤ (v3 - (10 : Int32)) then j_X12_question_86 (-2 : Int32) x1.2 else (rc x1.2 v0 12 (m_X12_ofAsking v0 v2 (((3 : Int32) + v3) - (10 : Int32)) x1.2)).bind fun x7 => j_X12_question_86 x7 x1.2) else some ((-2 : Int32), x1.2)) else if ¬ v3 = 0 then j_X12_question_34 (-2 : Int32) x1.2 else (rc x1.2 v0 12 (m_X12_askedMany v0 x1.2)).bind fun x8 => j_X12_question_34 x8 x1.2) else some ((-2 : Int32), x1.2)
set_option maxRecDepth 20000 in
theorem ok_X12_question {r : (Int32 × Hp)} {v0 : Nat} {v1 : Int32} {v2 : Int32} {v3 : Int32} {h : Hp} (H : m_X12_question v0 v1 v2 v3 h = some r) : Ev M_X12_question [aA v0, aI v1, aI v2, aI v3] h (some (aI r.1), r.2) := by
  show Go M_X12_question (some (aI r.1), r.2) 0 [some (aA v0), some (aI v1), some (aI v2), some (aI v3)] [] h
  unfold m_X12_question at H
  refine go_aloadn dX12_question_0 rfl ?_
  refine go_iconst (v := (0 : Int32)) dX12_question_1 rfl ?_
  refine gm_putI fd_X12_60 (Or.inl rfl) dX12_question_2 H (fun hh1 H => ?_)
  refine go_aloadn dX12_question_5 rfl ?_
  refine go_iloadn dX12_question_6 rfl ?_
  obtain ⟨c1, x1, ex1, H⟩ := gm_rc H
  refine go_callV (vs := [aI v1]) (stk := []) (o1 := (some (aI x1.1), x1.2)) mk_X12_hasAsking sv_X12_question_374 cl_X12 rfl dX12_question_7 c1 rfl rfl (Nat.le_of_ble_eq_true rfl) (Nat.le_of_ble_eq_true rfl) (ok_X12_hasAsking ex1) (show Go M_X12_question (some (aI r.1), r.2) 10 [some (aA v0), some (aI v1), some (aI v2), some (aI v3)] [aI x1.1] x1.2 from ?_)
  refine go_if_ne (tgt := 16) dX12_question_10 (by decide) (fun c2 => ?_) (fun c2 => ?_)
  · replace H := (gm_ite H).1 c2
    refine go_iloadn dX12_question_16 rfl ?_
    refine go_iconst (v := (-1 : Int32)) dX12_question_17 rfl ?_
    refine go_icmp_ne (tgt := 35) dX12_question_18 (by decide) (fun c3 => ?_) (fun c3 => ?_)
    · replace H := (gm_ite H).1 c3
      refine go_iloadn dX12_question_35 rfl ?_
      refine go_iconst (v := (0 : Int32)) dX12_question_36 rfl ?_
      refine go_aloadn dX12_question_37 rfl ?_
      obtain ⟨c4, x2, ex2, H⟩ := gm_rc H
      refine go_callV (vs := []) (stk := [aI (0 : Int32), aI v2]) (o1 := (some (aI x2), x1.2)) mk_X12_askedMany sv_X12_question_377 cl_X12 rfl dX12_question_38 c4 rfl rfl (Nat.le_of_ble_eq_true rfl) (Nat.le_of_ble_eq_true rfl) (ok_X12_askedMany ex2) (show Go M_X12_question (some (aI r.1), r.2) 41 [some (aA v0), some (aI v1), some (aI v2), some (aI v3)] [aI x2, aI (0 : Int32), aI v2] x1.2 from ?_)
      refine go_iconst (v := (1 : Int32)) dX12_question_41 rfl ?_
      refine go_isub dX12_question_42 ?_
      obtain ⟨x3, ex3, H⟩ := bind_some H
      refine go_callS (vs := [aI v2, aI (0 : Int32), aI (x2 - (1 : Int32))]) (stk := []) (o1 := (some (aI x3), x1.2)) mk_X12_in ss_X12_question_72 dX12_question_43 rfl rfl (Nat.le_of_ble_eq_true rfl) (Nat.le_of_ble_eq_true rfl) (ok_X12_in ex3) (show Go M_X12_question (some (aI r.1), r.2) 46 [some (aA v0), some (aI v1), some (aI v2), some (aI v3)] [aI x3] x1.2 from ?_)
      refine go_if_ne (tgt := 52) dX12_question_46 (by decide) (fun c6 => ?_) (fun c6 => ?_)
      · replace H := (gm_ite H).1 c6
        refine go_iloadn dX12_question_52 rfl ?_
        refine go_bipush (v := (10 : Int32)) dX12_question_53 rfl ?_
        refine go_icmp_lt (tgt := 87) dX12_question_55 (by decide) (fun c7 => ?_) (fun c7 => ?_)
        · replace H := (gm_ite H).1 c7
          refine go_iloadn dX12_question_87 rfl ?_
          refine go_iconst (v := (0 : Int32)) dX12_question_88 rfl ?_
          refine go_iconst (v := (2 : Int32)) dX12_question_89 rfl ?_
          obtain ⟨x4, ex4, H⟩ := bind_some H
          refine go_callS (vs := [aI v3, aI (0 : Int32), aI (2 : Int32)]) (stk := []) (o1 := (some (aI x4), x1.2)) mk_X12_in ss_X12_question_72 dX12_question_90 rfl rfl (Nat.le_of_ble_eq_true rfl) (Nat.le_of_ble_eq_true rfl) (ok_X12_in ex4) (show Go M_X12_question (some (aI r.1), r.2) 93 [some (aA v0), some (aI v1), some (aI v2), some (aI v3)] [aI x4] x1.2 from ?_)
          refine go_if_eq (tgt := 105) dX12_question_93 (by decide) (fun c9 => ?_) (fun c9 => ?_)
          · replace H := (gm_ite H).1 c9
            refine go_bipush (v := (-2 : Int32)) dX12_question_105 rfl ?_
            refine go_mask [false, false, false, false] (loc' := [none, none, none, none]) rfl ?_
            exact okj_X12_question_107 (-2 : Int32) x1.2  H
          · replace H := (gm_ite H).2 c9
            refine go_aloadn dX12_question_96 rfl ?_
            refine go_iloadn dX12_question_97 rfl ?_
            refine go_iloadn dX12_question_98 rfl ?_
            obtain ⟨c10, x5, ex5, H⟩ := gm_rc H
            refine go_callV (vs := [aI v2, aI v3]) (stk := []) (o1 := (some (aI x5), x1.2)) mk_X12_ofAsking sv_X12_question_371 cl_X12 rfl dX12_question_99 c10 rfl rfl (Nat.le_of_ble_eq_true rfl) (Nat.le_of_ble_eq_true rfl) (ok_X12_ofAsking ex5) (show Go M_X12_question (some (aI r.1), r.2) 102 [some (aA v0), some (aI v1), some (aI v2), some (aI v3)] [aI x5] x1.2 from ?_)
            refine go_goto (tgt := 107) dX12_question_102 (by decide) ?_
            refine go_mask [false, false, false, false] (loc' := [none, none, none, none]) rfl ?_
            exact okj_X12_question_107 x5 x1.2  H
        · replace H := (gm_ite H).2 c7
          refine go_iloadn dX12_question_58 rfl ?_
          refine go_bipush (v := (10 : Int32)) dX12_question_59 rfl ?_
          refine go_isub dX12_question_61 ?_
          refine go_aloadn dX12_question_62 rfl ?_
          refine go_iloadn dX12_question_63 rfl ?_
          obtain ⟨c11, x6, ex6, H⟩ := gm_rc H
          refine go_callV (vs := [aI v2]) (stk := [aI (v3 - (10 : Int32))]) (o1 := (some (aI x6), x1.2)) mk_X12_wordsOf sv_X12_question_380 cl_X12 rfl dX12_question_64 c11 rfl rfl (Nat.le_of_ble_eq_true rfl) (Nat.le_of_ble_eq_true rfl) (ok_X12_wordsOf ex6) (show Go M_X12_question (some (aI r.1), r.2) 67 [some (aA v0), some (aI v1), some (aI v2), some (aI v3)] [aI x6, aI (v3 - (10 : Int32))] x1.2 from ?_)
          refine go_icmp_ge (tgt := 84) dX12_question_67 (by decide) (fun c12 => ?_) (fun c12 => ?_)
          · replace H := (gm_ite H).1 c12
            refine go_bipush (v := (-2 : Int32)) dX12_question_84 rfl ?_
            refine go_mask [false, false, false, false] (loc' := [none, none, none, none]) rfl ?_
            exact okj_X12_question_86 (-2 : Int32) x1.2  H
          · replace H := (gm_ite H).2 c12
            refine go_aloadn dX12_question_70 rfl ?_
            refine go_iloadn dX12_question_71 rfl ?_
            refine go_iconst (v := (3 : Int32)) dX12_question_72 rfl ?_
            refine go_iloadn dX12_question_73 rfl ?_
            refine go_iadd dX12_question_74 ?_
            refine go_bipush (v := (10 : Int32)) dX12_question_75 rfl ?_
            refine go_isub dX12_question_77 ?_
            obtain ⟨c13, x7, ex7, H⟩ := gm_rc H
            refine go_callV (vs := [aI v2, aI (((3 : Int32) + v3) - (10 : Int32))]) (stk := []) (o1 := (some (aI x7), x1.2)) mk_X12_ofAsking sv_X12_question_371 cl_X12 rfl dX12_question_78 c13 rfl rfl (Nat.le_of_ble_eq_true rfl) (Nat.le_of_ble_eq_true rfl) (ok_X12_ofAsking ex7) (show Go M_X12_question (some (aI r.1), r.2) 81 [some (aA v0), some (aI v1), some (aI v2), some (aI v3)] [aI x7] x1.2 from ?_)
            refine go_goto (tgt := 86) dX12_question_81 (by decide) ?_
            refine go_mask [false, false, false, false] (loc' := [none, none, none, none]) rfl ?_
            exact okj_X12_question_86 x7 x1.2  H
      · replace H := (gm_ite H).2 c6
        refine go_bipush (v := (-2 : Int32)) dX12_question_49 rfl ?_
        obtain rfl := Option.some.inj H
        exact go_ireturn dX12_question_51 (tyI_int rfl)
    · replace H := (gm_ite H).2 c3
      refine go_iloadn dX12_question_21 rfl ?_
      refine go_if_ne (tgt := 32) dX12_question_22 (by decide) (fun c14 => ?_) (fun c14 => ?_)
      · replace H := (gm_ite H).1 c14
        refine go_bipush (v := (-2 : Int32)) dX12_question_32 rfl ?_
        refine go_mask [false, false, false, false] (loc' := [none, none, none, none]) rfl ?_
        exact okj_X12_question_34 (-2 : Int32) x1.2  H
      · replace H := (gm_ite H).2 c14
        refine go_aloadn dX12_question_25 rfl ?_
        obtain ⟨c15, x8, ex8, H⟩ := gm_rc H
        refine go_callV (vs := []) (stk := []) (o1 := (some (aI x8), x1.2)) mk_X12_askedMany sv_X12_question_377 cl_X12 rfl dX12_question_26 c15 rfl rfl (Nat.le_of_ble_eq_true rfl) (Nat.le_of_ble_eq_true rfl) (ok_X12_askedMany ex8) (show Go M_X12_question (some (aI r.1), r.2) 29 [some (aA v0), some (aI v1), some (aI v2), some (aI v3)] [aI x8] x1.2 from ?_)
        refine go_goto (tgt := 34) dX12_question_29 (by decide) ?_
        refine go_mask [false, false, false, false] (loc' := [none, none, none, none]) rfl ?_
        exact okj_X12_question_34 x8 x1.2  H
  · replace H := (gm_ite H).2 c2
    refine go_bipush (v := (-2 : Int32)) dX12_question_13 rfl ?_
    obtain rfl := Option.some.inj H
    exact go_ireturn dX12_question_15 (tyI_int rfl)
/-! X8_held -/
def m_X8_held (v0 : Nat) (v1 : Int32) (v2 : Int32) (h : Hp) : Option Int32 :=
  (gfR h v0 8 0).bind fun x1 => (m_X5_at x1 ((v1 * (4 : Int32)) + v2) h).bind fun x2 => some x2
set_option maxRecDepth 20000 in
theorem ok_X8_held {r : Int32} {v0 : Nat} {v1 : Int32} {v2 : Int32} {h : Hp} (H : m_X8_held v0 v1 v2 h = some r) : Ev M_X8_held [aA v0, aI v1, aI v2] h (some (aI r), h) := by
  show Go M_X8_held (some (aI r), h) 0 [some (aA v0), some (aI v1), some (aI v2)] [] h
  unfold m_X8_held at H
  refine go_aloadn dX8_held_0 rfl ?_
  refine gm_getR fd_X8_13 dX8_held_1 H (fun x1 H => ?_)
  refine go_iloadn dX8_held_4 rfl ?_
  refine go_iconst (v := (4 : Int32)) dX8_held_5 rfl ?_
  refine go_imul dX8_held_6 ?_
  refine go_iloadn dX8_held_7 rfl ?_
  refine go_iadd dX8_held_8 ?_
  obtain ⟨x2, ex2, H⟩ := bind_some H
  refine go_callS (vs := [aA x1, aI ((v1 * (4 : Int32)) + v2)]) (stk := []) (o1 := (some (aI x2), h)) mk_X5_at ss_X8_held_33 dX8_held_9 rfl rfl (Nat.le_of_ble_eq_true rfl) (Nat.le_of_ble_eq_true rfl) (ok_X5_at ex2) (show Go M_X8_held (some (aI r), h) 12 [some (aA v0), some (aI v1), some (aI v2)] [aI x2] h from ?_)
  obtain rfl := Option.some.inj H
  exact go_ireturn dX8_held_12 (tyI_int rfl)
/-! X8_beginnings -/
def b_X8_beginnings_32 (v1 : Nat) (v2 : Nat) (v3 : Int32) (v4 : Int32) (v5 : Int32) (v6 : Int32) (v7 : Int32) (v8 : Int32) (h : Hp) (K68 : Int32 → Option Int32) (k : Int32 → Option Int32) (v9 : Int32) : Option Int32 :=
  if v6 ≤ v9 then K68 v9 else (rc h v1 1 (m_X0_spellingAt v1 v4 v5 (v8 + v9) h)).bind fun x1 => (rc h v2 6 (m_X6_wordOf v2 v3 v9 h)).bind fun x2 => if ¬ x1 = x2 then K68 v9 else k (v9 + (1 : Int32))
set_option maxRecDepth 20000 in
theorem okb_X8_beginnings_32 {r : Int32} (v1 : Nat) (v2 : Nat) (v3 : Int32) (v4 : Int32) (v5 : Int32) (v6 : Int32) (v7 : Int32) (v8 : Int32) (h : Hp) (K68 : Int32 → Option Int32) (k : Int32 → Option Int32) (v9 : Int32) (HK68 : ∀ (v9q : Int32) , K68 v9q = some r → Go M_X8_beginnings (some (aI r), h) 68 [none, some (aA v1), some (aA v2), some (aI v3), some (aI v4), some (aI v5), some (aI v6), some (aI v7), some (aI v8), some (aI v9q)] [] h) (Hk : ∀ (v9q : Int32), k v9q = some r → Go M_X8_beginnings (some (aI r), h) 32 [none, some (aA v1), some (aA v2), some (aI v3), some (aI v4), some (aI v5), some (aI v6), some (aI v7), some (aI v8), some (aI v9q)] [] h) (H : b_X8_beginnings_32 v1 v2 v3 v4 v5 v6 v7 v8 h K68 k v9 = some r) : Go M_X8_beginnings (some (aI r), h) 32 [none, some (aA v1), some (aA v2), some (aI v3), some (aI v4), some (aI v5), some (aI v6), some (aI v7), some (aI v8), some (aI v9)] [] h := by
  unfold b_X8_beginnings_32 at H
  refine go_iload dX8_beginnings_32 rfl ?_
  refine go_iload dX8_beginnings_34 rfl ?_
  refine go_icmp_ge (tgt := 68) dX8_beginnings_36 (by decide) (fun c1 => ?_) (fun c1 => ?_)
  · replace H := (gm_ite H).1 c1
    exact HK68 v9 H
  · replace H := (gm_ite H).2 c1
    refine go_aloadn dX8_beginnings_39 rfl ?_
    refine go_iload dX8_beginnings_40 rfl ?_
    refine go_iload dX8_beginnings_42 rfl ?_
    refine go_iload dX8_beginnings_44 rfl ?_
    refine go_iload dX8_beginnings_46 rfl ?_
    refine go_iadd dX8_beginnings_48 ?_
    obtain ⟨c2, x1, ex1, H⟩ := gm_rc H
    refine go_callV (vs := [aI v4, aI v5, aI (v8 + v9)]) (stk := []) (o1 := (some (aI x1), h)) mk_X0_spellingAt sv_X8_beginnings_85 cl_X0 rfl dX8_beginnings_49 c2 rfl rfl (Nat.le_of_ble_eq_true rfl) (Nat.le_of_ble_eq_true rfl) (ok_X0_spellingAt ex1) (show Go M_X8_beginnings (some (aI r), h) 52 [none, some (aA v1), some (aA v2), some (aI v3), some (aI v4), some (aI v5), some (aI v6), some (aI v7), some (aI v8), some (aI v9)] [aI x1] h from ?_)
    refine go_aloadn dX8_beginnings_52 rfl ?_
    refine go_iloadn dX8_beginnings_53 rfl ?_
    refine go_iload dX8_beginnings_54 rfl ?_
    obtain ⟨c3, x2, ex2, H⟩ := gm_rc H
    refine go_callV (vs := [aI v3, aI v9]) (stk := [aI x1]) (o1 := (some (aI x2), h)) mk_X6_wordOf sv_X8_beginnings_70 cl_X6 rfl dX8_beginnings_56 c3 rfl rfl (Nat.le_of_ble_eq_true rfl) (Nat.le_of_ble_eq_true rfl) (ok_X6_wordOf ex2) (show Go M_X8_beginnings (some (aI r), h) 59 [none, some (aA v1), some (aA v2), some (aI v3), some (aI v4), some (aI v5), some (aI v6), some (aI v7), some (aI v8), some (aI v9)] [aI x2, aI x1] h from ?_)
    refine go_icmp_ne (tgt := 68) dX8_beginnings_59 (by decide) (fun c4 => ?_) (fun c4 => ?_)
    · replace H := (gm_ite H).1 c4
      exact HK68 v9 H
    · replace H := (gm_ite H).2 c4
      refine go_iinc (v := (v9 + (1 : Int32))) (loc2 := [none, some (aA v1), some (aA v2), some (aI v3), some (aI v4), some (aI v5), some (aI v6), some (aI v7), some (aI v8), some (aI (v9 + (1 : Int32)))]) dX8_beginnings_62 rfl rfl (by decide) rfl ?_
      refine go_goto (tgt := 32) dX8_beginnings_65 (by decide) ?_
      exact Hk (v9 + (1 : Int32)) H
def l_X8_beginnings_32 (v1 : Nat) (v2 : Nat) (v3 : Int32) (v4 : Int32) (v5 : Int32) (v6 : Int32) (v7 : Int32) (v8 : Int32) (h : Hp) (K68 : Int32 → Option Int32) (v9 : Int32) : Option Int32 := loopK FUEL (fun (k : Int32 → Option Int32) (s : Int32) => b_X8_beginnings_32 v1 v2 v3 v4 v5 v6 v7 v8 h K68 (fun v9q => k v9q) s) v9
theorem okl_X8_beginnings_32 {r : Int32} (v1 : Nat) (v2 : Nat) (v3 : Int32) (v4 : Int32) (v5 : Int32) (v6 : Int32) (v7 : Int32) (v8 : Int32) (h : Hp) (K68 : Int32 → Option Int32) (v9 : Int32) (HK68 : ∀ (v9q : Int32) , K68 v9q = some r → Go M_X8_beginnings (some (aI r), h) 68 [none, some (aA v1), some (aA v2), some (aI v3), some (aI v4), some (aI v5), some (aI v6), some (aI v7), some (aI v8), some (aI v9q)] [] h) (H : l_X8_beginnings_32 v1 v2 v3 v4 v5 v6 v7 v8 h K68 v9 = some r) : Go M_X8_beginnings (some (aI r), h) 32 [none, some (aA v1), some (aA v2), some (aI v3), some (aI v4), some (aI v5), some (aI v6), some (aI v7), some (aI v8), some (aI v9)] [] h := by
  unfold l_X8_beginnings_32 at H
  exact go_loop (σ := Int32) (body := (fun (k : Int32 → Option Int32) (s : Int32) => b_X8_beginnings_32 v1 v2 v3 v4 v5 v6 v7 v8 h K68 (fun v9q => k v9q) s)) (fun s => [none, some (aA v1), some (aA v2), some (aI v3), some (aI v4), some (aI v5), some (aI v6), some (aI v7), some (aI v8), some (aI s)]) (fun s => h) (fun k s Hk H => okb_X8_beginnings_32 v1 v2 v3 v4 v5 v6 v7 v8 h K68 (fun v9q => k v9q) s HK68 (fun v9q H => Hk v9q H) H) FUEL v9 H
def j_X8_beginnings_82 (v1 : Nat) (v2 : Nat) (v3 : Int32) (v4 : Int32) (v5 : Int32) (v6 : Int32) (v8 : Int32) (s0 : Int32) (s1 : Int32) (h : Hp) (k : Int32 → Int32 → Option Int32) : Option Int32 :=
  k (s0 + s1) (v8 + (1 : Int32))
set_option maxRecDepth 20000 in
theorem okj_X8_beginnings_82 {r : Int32} (v1 : Nat) (v2 : Nat) (v3 : Int32) (v4 : Int32) (v5 : Int32) (v6 : Int32) (v8 : Int32) (s0 : Int32) (s1 : Int32) (h : Hp) (k : Int32 → Int32 → Option Int32) (Hk : ∀ (v7q : Int32) (v8q : Int32), k v7q v8q = some r → Go M_X8_beginnings (some (aI r), h) 13 [none, some (aA v1), some (aA v2), some (aI v3), some (aI v4), some (aI v5), some (aI v6), some (aI v7q), some (aI v8q), none] [] h) (H : j_X8_beginnings_82 v1 v2 v3 v4 v5 v6 v8 s0 s1 h k = some r) : Go M_X8_beginnings (some (aI r), h) 82 [none, some (aA v1), some (aA v2), some (aI v3), some (aI v4), some (aI v5), some (aI v6), none, some (aI v8), none] [aI s1, aI s0] h := by
  unfold j_X8_beginnings_82 at H
  refine go_iadd dX8_beginnings_82 ?_
  refine go_istore (loc2 := [none, some (aA v1), some (aA v2), some (aI v3), some (aI v4), some (aI v5), some (aI v6), some (aI (s0 + s1)), some (aI v8), none]) dX8_beginnings_83 (by decide) rfl ?_
  refine go_iinc (v := (v8 + (1 : Int32))) (loc2 := [none, some (aA v1), some (aA v2), some (aI v3), some (aI v4), some (aI v5), some (aI v6), some (aI (s0 + s1)), some (aI (v8 + (1 : Int32))), none]) dX8_beginnings_85 rfl rfl (by decide) rfl ?_
  refine go_goto (tgt := 13) dX8_beginnings_88 (by decide) ?_
  exact Hk (s0 + s1) (v8 + (1 : Int32)) H
def j_X8_beginnings_68 (v1 : Nat) (v2 : Nat) (v3 : Int32) (v4 : Int32) (v5 : Int32) (v6 : Int32) (v7 : Int32) (v8 : Int32) (v9 : Int32)  (h : Hp) (k : Int32 → Int32 → Option Int32) : Option Int32 :=
  j_X8_beginnings_82 v1 v2 v3 v4 v5 v6 v8 v7 (if ¬ v9 = v6 then (0 : Int32) else (1 : Int32)) h k
set_option maxRecDepth 20000 in
theorem okj_X8_beginnings_68 {r : Int32} (v1 : Nat) (v2 : Nat) (v3 : Int32) (v4 : Int32) (v5 : Int32) (v6 : Int32) (v7 : Int32) (v8 : Int32) (v9 : Int32)  (h : Hp) (k : Int32 → Int32 → Option Int32) (Hk : ∀ (v7q : Int32) (v8q : Int32), k v7q v8q = some r → Go M_X8_beginnings (some (aI r), h) 13 [none, some (aA v1), some (aA v2), some (aI v3), some (aI v4), some (aI v5), some (aI v6), some (aI v7q), some (aI v8q), none] [] h) (H : j_X8_beginnings_68 v1 v2 v3 v4 v5 v6 v7 v8 v9 h k = some r) : Go M_X8_beginnings (some (aI r), h) 68 [none, some (aA v1), some (aA v2), some (aI v3), some (aI v4), some (aI v5), some (aI v6), some (aI v7), some (aI v8), some (aI v9)] [] h := by
  unfold j_X8_beginnings_68 at H
  refine go_iload dX8_beginnings_68 rfl ?_
  refine go_iload dX8_beginnings_70 rfl ?_
  refine go_iload dX8_beginnings_72 rfl ?_
  refine go_icmp_ne (tgt := 81) dX8_beginnings_74 (by decide) (fun c1 => ?_) (fun c1 => ?_)
  · rw [if_pos c1] at H
    refine go_iconst (v := (0 : Int32)) dX8_beginnings_81 rfl ?_
    refine go_mask [false, true, true, true, true, true, true, false, true, false] (loc' := [none, some (aA v1), some (aA v2), some (aI v3), some (aI v4), some (aI v5), some (aI v6), none, some (aI v8), none]) rfl ?_
    exact okj_X8_beginnings_82 v1 v2 v3 v4 v5 v6 v8 v7 (0 : Int32) h k Hk H
  · rw [if_neg c1] at H
    refine go_iconst (v := (1 : Int32)) dX8_beginnings_77 rfl ?_
    refine go_goto (tgt := 82) dX8_beginnings_78 (by decide) ?_
    refine go_mask [false, true, true, true, true, true, true, false, true, false] (loc' := [none, some (aA v1), some (aA v2), some (aI v3), some (aI v4), some (aI v5), some (aI v6), none, some (aI v8), none]) rfl ?_
    exact okj_X8_beginnings_82 v1 v2 v3 v4 v5 v6 v8 v7 (1 : Int32) h k Hk H
def b_X8_beginnings_13 (v1 : Nat) (v2 : Nat) (v3 : Int32) (v4 : Int32) (v5 : Int32) (v6 : Int32) (h : Hp) (k : Int32 → Int32 → Option Int32) (v7 : Int32) (v8 : Int32) : Option Int32 :=
  (rc h v1 1 (m_X0_lengthOf v1 v4 v5 h)).bind fun x1 => if x1 < (v8 + v6) then (some v7) else l_X8_beginnings_32 v1 v2 v3 v4 v5 v6 v7 v8 h (fun a2_9 => j_X8_beginnings_68 v1 v2 v3 v4 v5 v6 v7 v8 a2_9 h k) (0 : Int32)
set_option maxRecDepth 20000 in
theorem okb_X8_beginnings_13 {r : Int32} (v1 : Nat) (v2 : Nat) (v3 : Int32) (v4 : Int32) (v5 : Int32) (v6 : Int32) (h : Hp) (k : Int32 → Int32 → Option Int32) (v7 : Int32) (v8 : Int32) (Hk : ∀ (v7q : Int32) (v8q : Int32), k v7q v8q = some r → Go M_X8_beginnings (some (aI r), h) 13 [none, some (aA v1), some (aA v2), some (aI v3), some (aI v4), some (aI v5), some (aI v6), some (aI v7q), some (aI v8q), none] [] h) (H : b_X8_beginnings_13 v1 v2 v3 v4 v5 v6 h k v7 v8 = some r) : Go M_X8_beginnings (some (aI r), h) 13 [none, some (aA v1), some (aA v2), some (aI v3), some (aI v4), some (aI v5), some (aI v6), some (aI v7), some (aI v8), none] [] h := by
  unfold b_X8_beginnings_13 at H
  refine go_iload dX8_beginnings_13 rfl ?_
  refine go_iload dX8_beginnings_15 rfl ?_
  refine go_iadd dX8_beginnings_17 ?_
  refine go_aloadn dX8_beginnings_18 rfl ?_
  refine go_iload dX8_beginnings_19 rfl ?_
  refine go_iload dX8_beginnings_21 rfl ?_
  obtain ⟨c1, x1, ex1, H⟩ := gm_rc H
  refine go_callV (vs := [aI v4, aI v5]) (stk := [aI (v8 + v6)]) (o1 := (some (aI x1), h)) mk_X0_lengthOf sv_X8_beginnings_82 cl_X0 rfl dX8_beginnings_23 c1 rfl rfl (Nat.le_of_ble_eq_true rfl) (Nat.le_of_ble_eq_true rfl) (ok_X0_lengthOf ex1) (show Go M_X8_beginnings (some (aI r), h) 26 [none, some (aA v1), some (aA v2), some (aI v3), some (aI v4), some (aI v5), some (aI v6), some (aI v7), some (aI v8), none] [aI x1, aI (v8 + v6)] h from ?_)
  refine go_icmp_gt (tgt := 91) dX8_beginnings_26 (by decide) (fun c2 => ?_) (fun c2 => ?_)
  · replace H := (gm_ite H).1 c2
    refine go_iload dX8_beginnings_91 rfl ?_
    obtain rfl := Option.some.inj H
    exact go_ireturn dX8_beginnings_93 (tyI_int rfl)
  · replace H := (gm_ite H).2 c2
    refine go_iconst (v := (0 : Int32)) dX8_beginnings_29 rfl ?_
    refine go_istore (loc2 := [none, some (aA v1), some (aA v2), some (aI v3), some (aI v4), some (aI v5), some (aI v6), some (aI v7), some (aI v8), some (aI (0 : Int32))]) dX8_beginnings_30 (by decide) rfl ?_
    refine okl_X8_beginnings_32 v1 v2 v3 v4 v5 v6 v7 v8 h (fun a2_9 => j_X8_beginnings_68 v1 v2 v3 v4 v5 v6 v7 v8 a2_9 h k) (0 : Int32) ?_ H
    · intro a2_9 H
      exact okj_X8_beginnings_68 v1 v2 v3 v4 v5 v6 v7 v8 a2_9 h k Hk H
def l_X8_beginnings_13 (v1 : Nat) (v2 : Nat) (v3 : Int32) (v4 : Int32) (v5 : Int32) (v6 : Int32) (h : Hp) (v7 : Int32) (v8 : Int32) : Option Int32 := loopK FUEL (fun (k : Int32 × Int32 → Option Int32) (s : Int32 × Int32) => b_X8_beginnings_13 v1 v2 v3 v4 v5 v6 h (fun v7q v8q => k (v7q, v8q)) s.1 s.2) (v7, v8)
theorem okl_X8_beginnings_13 {r : Int32} (v1 : Nat) (v2 : Nat) (v3 : Int32) (v4 : Int32) (v5 : Int32) (v6 : Int32) (h : Hp) (v7 : Int32) (v8 : Int32) (H : l_X8_beginnings_13 v1 v2 v3 v4 v5 v6 h v7 v8 = some r) : Go M_X8_beginnings (some (aI r), h) 13 [none, some (aA v1), some (aA v2), some (aI v3), some (aI v4), some (aI v5), some (aI v6), some (aI v7), some (aI v8), none] [] h := by
  unfold l_X8_beginnings_13 at H
  exact go_loop (σ := Int32 × Int32) (body := (fun (k : Int32 × Int32 → Option Int32) (s : Int32 × Int32) => b_X8_beginnings_13 v1 v2 v3 v4 v5 v6 h (fun v7q v8q => k (v7q, v8q)) s.1 s.2)) (fun s => [none, some (aA v1), some (aA v2), some (aI v3), some (aI v4), some (aI v5), some (aI v6), some (aI s.1), some (aI s.2), none]) (fun s => h) (fun k s Hk H => okb_X8_beginnings_13 v1 v2 v3 v4 v5 v6 h (fun v7q v8q => k (v7q, v8q)) s.1 s.2  (fun v7q v8q H => Hk (v7q, v8q) H) H) FUEL (v7, v8) H
def m_X8_beginnings (v0 : Nat) (v1 : Nat) (v2 : Nat) (v3 : Int32) (v4 : Int32) (v5 : Int32) (h : Hp) : Option Int32 :=
  (rc h v2 6 (m_X6_wordsOf v2 v3 h)).bind fun x1 => l_X8_beginnings_13 v1 v2 v3 v4 v5 x1 h (0 : Int32) (0 : Int32)
set_option maxRecDepth 20000 in
theorem ok_X8_beginnings {r : Int32} {v0 : Nat} {v1 : Nat} {v2 : Nat} {v3 : Int32} {v4 : Int32} {v5 : Int32} {h : Hp} (H : m_X8_beginnings v0 v1 v2 v3 v4 v5 h = some r) : Ev M_X8_beginnings [aA v0, aA v1, aA v2, aI v3, aI v4, aI v5] h (some (aI r), h) := by
  show Go M_X8_beginnings (some (aI r), h) 0 [some (aA v0), some (aA v1), some (aA v2), some (aI v3), some (aI v4), some (aI v5), none, none, none, none] [] h
  unfold m_X8_beginnings at H
  refine go_aloadn dX8_beginnings_0 rfl ?_
  refine go_iloadn dX8_beginnings_1 rfl ?_
  obtain ⟨c1, x1, ex1, H⟩ := gm_rc H
  refine go_callV (vs := [aI v3]) (stk := []) (o1 := (some (aI x1), h)) mk_X6_wordsOf sv_X8_beginnings_79 cl_X6 rfl dX8_beginnings_2 c1 rfl rfl (Nat.le_of_ble_eq_true rfl) (Nat.le_of_ble_eq_true rfl) (ok_X6_wordsOf ex1) (show Go M_X8_beginnings (some (aI r), h) 5 [some (aA v0), some (aA v1), some (aA v2), some (aI v3), some (aI v4), some (aI v5), none, none, none, none] [aI x1] h from ?_)
  refine go_istore (loc2 := [some (aA v0), some (aA v1), some (aA v2), some (aI v3), some (aI v4), some (aI v5), some (aI x1), none, none, none]) dX8_beginnings_5 (by decide) rfl ?_
  refine go_iconst (v := (0 : Int32)) dX8_beginnings_7 rfl ?_
  refine go_istore (loc2 := [some (aA v0), some (aA v1), some (aA v2), some (aI v3), some (aI v4), some (aI v5), some (aI x1), some (aI (0 : Int32)), none, none]) dX8_beginnings_8 (by decide) rfl ?_
  refine go_iconst (v := (0 : Int32)) dX8_beginnings_10 rfl ?_
  refine go_istore (loc2 := [some (aA v0), some (aA v1), some (aA v2), some (aI v3), some (aI v4), some (aI v5), some (aI x1), some (aI (0 : Int32)), some (aI (0 : Int32)), none]) dX8_beginnings_11 (by decide) rfl ?_
  refine go_mask [false, true, true, true, true, true, true, true, true, false] (loc' := [none, some (aA v1), some (aA v2), some (aI v3), some (aI v4), some (aI v5), some (aI x1), some (aI (0 : Int32)), some (aI (0 : Int32)), none]) rfl ?_
  exact okl_X8_beginnings_13 v1 v2 v3 v4 v5 x1 h (0 : Int32) (0 : Int32) H
/-! J9_abs_0f7a4 -/
def j_J9_abs_0f7a4_10  (s0 : Int32) (h : Hp) : Option Int32 :=
  some s0
set_option maxRecDepth 20000 in
theorem okj_J9_abs_0f7a4_10 {r : Int32}  (s0 : Int32) (h : Hp) (H : j_J9_abs_0f7a4_10 s0 h = some r) : Go M_J9_abs_0f7a4 (some (aI r), h) 10 [none] [aI s0] h := by
  unfold j_J9_abs_0f7a4_10 at H
  obtain rfl := Option.some.inj H
  exact go_ireturn dJ9_abs_0f7a4_10 (tyI_int rfl)
def m_J9_abs_0f7a4 (v0 : Int32) (h : Hp) : Option Int32 :=
  if 0 ≤ v0 then j_J9_abs_0f7a4_10 v0 h else j_J9_abs_0f7a4_10 (-v0) h
set_option maxRecDepth 20000 in
theorem ok_J9_abs_0f7a4 {r : Int32} {v0 : Int32} {h : Hp} (H : m_J9_abs_0f7a4 v0 h = some r) : Ev M_J9_abs_0f7a4 [aI v0] h (some (aI r), h) := by
  show Go M_J9_abs_0f7a4 (some (aI r), h) 0 [some (aI v0)] [] h
  unfold m_J9_abs_0f7a4 at H
  refine go_iloadn dJ9_abs_0f7a4_0 rfl ?_
  refine go_if_ge (tgt := 9) dJ9_abs_0f7a4_1 (by decide) (fun c1 => ?_) (fun c1 => ?_)
  · replace H := (gm_ite H).1 c1
    refine go_iloadn dJ9_abs_0f7a4_9 rfl ?_
    refine go_mask [false] (loc' := [none]) rfl ?_
    exact okj_J9_abs_0f7a4_10 v0 h  H
  · replace H := (gm_ite H).2 c1
    refine go_iloadn dJ9_abs_0f7a4_4 rfl ?_
    refine go_ineg dJ9_abs_0f7a4_5 ?_
    refine go_goto (tgt := 10) dJ9_abs_0f7a4_6 (by decide) ?_
    refine go_mask [false] (loc' := [none]) rfl ?_
    exact okj_J9_abs_0f7a4_10 (-v0) h  H
/-! X8_areNear -/
def j_X8_areNear_94 (v1 : Nat) (v2 : Nat) (v3 : Int32) (v4 : Int32) (v5 : Int32) (v6 : Int32) (v7 : Int32) (v8 : Int32)  (h : Hp) (K100 : Option Int32) (k : Int32 → Option Int32) : Option Int32 :=
  k (v8 + (1 : Int32))
set_option maxRecDepth 20000 in
theorem okj_X8_areNear_94 {r : Int32} (v1 : Nat) (v2 : Nat) (v3 : Int32) (v4 : Int32) (v5 : Int32) (v6 : Int32) (v7 : Int32) (v8 : Int32)  (h : Hp) (K100 : Option Int32) (k : Int32 → Option Int32) (HK100 : K100 = some r → Go M_X8_areNear (some (aI r), h) 100 [none, some (aA v1), some (aA v2), some (aI v3), some (aI v4), some (aI v5), some (aI v6), some (aI v7), none] [] h) (Hk : ∀ (v8q : Int32), k v8q = some r → Go M_X8_areNear (some (aI r), h) 23 [none, some (aA v1), some (aA v2), some (aI v3), some (aI v4), some (aI v5), some (aI v6), some (aI v7), some (aI v8q)] [] h) (H : j_X8_areNear_94 v1 v2 v3 v4 v5 v6 v7 v8 h K100 k = some r) : Go M_X8_areNear (some (aI r), h) 94 [none, some (aA v1), some (aA v2), some (aI v3), some (aI v4), some (aI v5), some (aI v6), some (aI v7), some (aI v8)] [] h := by
  unfold j_X8_areNear_94 at H
  refine go_iinc (v := (v8 + (1 : Int32))) (loc2 := [none, some (aA v1), some (aA v2), some (aI v3), some (aI v4), some (aI v5), some (aI v6), some (aI v7), some (aI (v8 + (1 : Int32)))]) dX8_areNear_94 rfl rfl (by decide) rfl ?_
  refine go_goto (tgt := 23) dX8_areNear_97 (by decide) ?_
  exact Hk (v8 + (1 : Int32)) H
def b_X8_areNear_23 (v1 : Nat) (v2 : Nat) (v3 : Int32) (v4 : Int32) (v5 : Int32) (v6 : Int32) (v7 : Int32) (h : Hp) (K100 : Option Int32) (k : Int32 → Option Int32) (v8 : Int32) : Option Int32 :=
  if v6 ≤ v8 then K100 else if v7 = v8 then j_X8_areNear_94 v1 v2 v3 v4 v5 v6 v7 v8 h K100 k else (m_J9_abs_0f7a4 (v7 - v8) h).bind fun x1 => (rc h v2 6 (m_X6_numberOf v2 v3 (0 : Int32) h)).bind fun x2 => if x2 < x1 then j_X8_areNear_94 v1 v2 v3 v4 v5 v6 v7 v8 h K100 k else (rc h v1 1 (m_X0_spellingAt v1 v4 v5 v7 h)).bind fun x3 => (rc h v2 6 (m_X6_wordOf v2 v3 (0 : Int32) h)).bind fun x4 => if ¬ x3 = x4 then j_X8_areNear_94 v1 v2 v3 v4 v5 v6 v7 v8 h K100 k else (rc h v1 1 (m_X0_spellingAt v1 v4 v5 v8 h)).bind fun x5 => (rc h v2 6 (m_X6_wordOf v2 v3 (1 : Int32) h)).bind fun x6 => if ¬ x5 = x6 then j_X8_areNear_94 v1 v2 v3 v4 v5 v6 v7 v8 h K100 k else some (1 : Int32)
set_option maxRecDepth 20000 in
theorem okb_X8_areNear_23 {r : Int32} (v1 : Nat) (v2 : Nat) (v3 : Int32) (v4 : Int32) (v5 : Int32) (v6 : Int32) (v7 : Int32) (h : Hp) (K100 : Option Int32) (k : Int32 → Option Int32) (v8 : Int32) (HK100 : K100 = some r → Go M_X8_areNear (some (aI r), h) 100 [none, some (aA v1), some (aA v2), some (aI v3), some (aI v4), some (aI v5), some (aI v6), some (aI v7), none] [] h) (Hk : ∀ (v8q : Int32), k v8q = some r → Go M_X8_areNear (some (aI r), h) 23 [none, some (aA v1), some (aA v2), some (aI v3), some (aI v4), some (aI v5), some (aI v6), some (aI v7), some (aI v8q)] [] h) (H : b_X8_areNear_23 v1 v2 v3 v4 v5 v6 v7 h K100 k v8 = some r) : Go M_X8_areNear (some (aI r), h) 23 [none, some (aA v1), some (aA v2), some (aI v3), some (aI v4), some (aI v5), some (aI v6), some (aI v7), some (aI v8)] [] h := by
  unfold b_X8_areNear_23 at H
  refine go_iload dX8_areNear_23 rfl ?_
  refine go_iload dX8_areNear_25 rfl ?_
  refine go_icmp_ge (tgt := 100) dX8_areNear_27 (by decide) (fun c1 => ?_) (fun c1 => ?_)
  · replace H := (gm_ite H).1 c1
    refine go_mask [false, true, true, true, true, true, true, true, false] (loc' := [none, some (aA v1), some (aA v2), some (aI v3), some (aI v4), some (aI v5), some (aI v6), some (aI v7), none]) rfl ?_
    exact HK100  H
  · replace H := (gm_ite H).2 c1
    refine go_iload dX8_areNear_30 rfl ?_
    refine go_iload dX8_areNear_32 rfl ?_
    refine go_icmp_eq (tgt := 94) dX8_areNear_34 (by decide) (fun c2 => ?_) (fun c2 => ?_)
    · replace H := (gm_ite H).1 c2
      exact okj_X8_areNear_94 v1 v2 v3 v4 v5 v6 v7 v8 h K100 k HK100 Hk H
    · replace H := (gm_ite H).2 c2
      refine go_iload dX8_areNear_37 rfl ?_
      refine go_iload dX8_areNear_39 rfl ?_
      refine go_isub dX8_areNear_41 ?_
      obtain ⟨x1, ex1, H⟩ := bind_some H
      refine go_callS (vs := [aI (v7 - v8)]) (stk := []) (o1 := (some (aI x1), h)) mk_J9_abs_0f7a4 ss_X8_areNear_89 dX8_areNear_42 rfl rfl (Nat.le_of_ble_eq_true rfl) (Nat.le_of_ble_eq_true rfl) (ok_J9_abs_0f7a4 ex1) (show Go M_X8_areNear (some (aI r), h) 45 [none, some (aA v1), some (aA v2), some (aI v3), some (aI v4), some (aI v5), some (aI v6), some (aI v7), some (aI v8)] [aI x1] h from ?_)
      refine go_aloadn dX8_areNear_45 rfl ?_
      refine go_iloadn dX8_areNear_46 rfl ?_
      refine go_iconst (v := (0 : Int32)) dX8_areNear_47 rfl ?_
      obtain ⟨c4, x2, ex2, H⟩ := gm_rc H
      refine go_callV (vs := [aI v3, aI (0 : Int32)]) (stk := [aI x1]) (o1 := (some (aI x2), h)) mk_X6_numberOf sv_X8_areNear_37 cl_X6 rfl dX8_areNear_48 c4 rfl rfl (Nat.le_of_ble_eq_true rfl) (Nat.le_of_ble_eq_true rfl) (ok_X6_numberOf ex2) (show Go M_X8_areNear (some (aI r), h) 51 [none, some (aA v1), some (aA v2), some (aI v3), some (aI v4), some (aI v5), some (aI v6), some (aI v7), some (aI v8)] [aI x2, aI x1] h from ?_)
      refine go_icmp_gt (tgt := 94) dX8_areNear_51 (by decide) (fun c5 => ?_) (fun c5 => ?_)
      · replace H := (gm_ite H).1 c5
        exact okj_X8_areNear_94 v1 v2 v3 v4 v5 v6 v7 v8 h K100 k HK100 Hk H
      · replace H := (gm_ite H).2 c5
        refine go_aloadn dX8_areNear_54 rfl ?_
        refine go_iload dX8_areNear_55 rfl ?_
        refine go_iload dX8_areNear_57 rfl ?_
        refine go_iload dX8_areNear_59 rfl ?_
        obtain ⟨c6, x3, ex3, H⟩ := gm_rc H
        refine go_callV (vs := [aI v4, aI v5, aI v7]) (stk := []) (o1 := (some (aI x3), h)) mk_X0_spellingAt sv_X8_areNear_85 cl_X0 rfl dX8_areNear_61 c6 rfl rfl (Nat.le_of_ble_eq_true rfl) (Nat.le_of_ble_eq_true rfl) (ok_X0_spellingAt ex3) (show Go M_X8_areNear (some (aI r), h) 64 [none, some (aA v1), some (aA v2), some (aI v3), some (aI v4), some (aI v5), some (aI v6), some (aI v7), some (aI v8)] [aI x3] h from ?_)
        refine go_aloadn dX8_areNear_64 rfl ?_
        refine go_iloadn dX8_areNear_65 rfl ?_
        refine go_iconst (v := (0 : Int32)) dX8_areNear_66 rfl ?_
        obtain ⟨c7, x4, ex4, H⟩ := gm_rc H
        refine go_callV (vs := [aI v3, aI (0 : Int32)]) (stk := [aI x3]) (o1 := (some (aI x4), h)) mk_X6_wordOf sv_X8_areNear_70 cl_X6 rfl dX8_areNear_67 c7 rfl rfl (Nat.le_of_ble_eq_true rfl) (Nat.le_of_ble_eq_true rfl) (ok_X6_wordOf ex4) (show Go M_X8_areNear (some (aI r), h) 70 [none, some (aA v1), some (aA v2), some (aI v3), some (aI v4), some (aI v5), some (aI v6), some (aI v7), some (aI v8)] [aI x4, aI x3] h from ?_)
        refine go_icmp_ne (tgt := 94) dX8_areNear_70 (by decide) (fun c8 => ?_) (fun c8 => ?_)
        · replace H := (gm_ite H).1 c8
          exact okj_X8_areNear_94 v1 v2 v3 v4 v5 v6 v7 v8 h K100 k HK100 Hk H
        · replace H := (gm_ite H).2 c8
          refine go_aloadn dX8_areNear_73 rfl ?_
          refine go_iload dX8_areNear_74 rfl ?_
          refine go_iload dX8_areNear_76 rfl ?_
          refine go_iload dX8_areNear_78 rfl ?_
          obtain ⟨c9, x5, ex5, H⟩ := gm_rc H
          refine go_callV (vs := [aI v4, aI v5, aI v8]) (stk := []) (o1 := (some (aI x5), h)) mk_X0_spellingAt sv_X8_areNear_85 cl_X0 rfl dX8_areNear_80 c9 rfl rfl (Nat.le_of_ble_eq_true rfl) (Nat.le_of_ble_eq_true rfl) (ok_X0_spellingAt ex5) (show Go M_X8_areNear (some (aI r), h) 83 [none, some (aA v1), some (aA v2), some (aI v3), some (aI v4), some (aI v5), some (aI v6), some (aI v7), some (aI v8)] [aI x5] h from ?_)
          refine go_aloadn dX8_areNear_83 rfl ?_
          refine go_iloadn dX8_areNear_84 rfl ?_
          refine go_iconst (v := (1 : Int32)) dX8_areNear_85 rfl ?_
          obtain ⟨c10, x6, ex6, H⟩ := gm_rc H
          refine go_callV (vs := [aI v3, aI (1 : Int32)]) (stk := [aI x5]) (o1 := (some (aI x6), h)) mk_X6_wordOf sv_X8_areNear_70 cl_X6 rfl dX8_areNear_86 c10 rfl rfl (Nat.le_of_ble_eq_true rfl) (Nat.le_of_ble_eq_true rfl) (ok_X6_wordOf ex6) (show Go M_X8_areNear (some (aI r), h) 89 [none, some (aA v1), some (aA v2), some (aI v3), some (aI v4), some (aI v5), some (aI v6), some (aI v7), some (aI v8)] [aI x6, aI x5] h from ?_)
          refine go_icmp_ne (tgt := 94) dX8_areNear_89 (by decide) (fun c11 => ?_) (fun c11 => ?_)
          · replace H := (gm_ite H).1 c11
            exact okj_X8_areNear_94 v1 v2 v3 v4 v5 v6 v7 v8 h K100 k HK100 Hk H
          · replace H := (gm_ite H).2 c11
            refine go_iconst (v := (1 : Int32)) dX8_areNear_92 rfl ?_
            obtain rfl := Option.some.inj H
            exact go_ireturn (x := (1 : Int32)) dX8_areNear_93 (tyI_bool rfl (by decide))
def l_X8_areNear_23 (v1 : Nat) (v2 : Nat) (v3 : Int32) (v4 : Int32) (v5 : Int32) (v6 : Int32) (v7 : Int32) (h : Hp) (K100 : Option Int32) (v8 : Int32) : Option Int32 := loopK FUEL (fun (k : Int32 → Option Int32) (s : Int32) => b_X8_areNear_23 v1 v2 v3 v4 v5 v6 v7 h K100 (fun v8q => k v8q) s) v8
theorem okl_X8_areNear_23 {r : Int32} (v1 : Nat) (v2 : Nat) (v3 : Int32) (v4 : Int32) (v5 : Int32) (v6 : Int32) (v7 : Int32) (h : Hp) (K100 : Option Int32) (v8 : Int32) (HK100 : K100 = some r → Go M_X8_areNear (some (aI r), h) 100 [none, some (aA v1), some (aA v2), some (aI v3), some (aI v4), some (aI v5), some (aI v6), some (aI v7), none] [] h) (H : l_X8_areNear_23 v1 v2 v3 v4 v5 v6 v7 h K100 v8 = some r) : Go M_X8_areNear (some (aI r), h) 23 [none, some (aA v1), some (aA v2), some (aI v3), some (aI v4), some (aI v5), some (aI v6), some (aI v7), some (aI v8)] [] h := by
  unfold l_X8_areNear_23 at H
  exact go_loop (σ := Int32) (body := (fun (k : Int32 → Option Int32) (s : Int32) => b_X8_areNear_23 v1 v2 v3 v4 v5 v6 v7 h K100 (fun v8q => k v8q) s)) (fun s => [none, some (aA v1), some (aA v2), some (aI v3), some (aI v4), some (aI v5), some (aI v6), some (aI v7), some (aI s)]) (fun s => h) (fun k s Hk H => okb_X8_areNear_23 v1 v2 v3 v4 v5 v6 v7 h K100 (fun v8q => k v8q) s HK100 (fun v8q H => Hk v8q H) H) FUEL v8 H
def j_X8_areNear_100 (v1 : Nat) (v2 : Nat) (v3 : Int32) (v4 : Int32) (v5 : Int32) (v6 : Int32) (v7 : Int32)  (h : Hp) (k : Int32 → Option Int32) : Option Int32 :=
  k (v7 + (1 : Int32))
set_option maxRecDepth 20000 in
theorem okj_X8_areNear_100 {r : Int32} (v1 : Nat) (v2 : Nat) (v3 : Int32) (v4 : Int32) (v5 : Int32) (v6 : Int32) (v7 : Int32)  (h : Hp) (k : Int32 → Option Int32) (Hk : ∀ (v7q : Int32), k v7q = some r → Go M_X8_areNear (some (aI r), h) 13 [none, some (aA v1), some (aA v2), some (aI v3), some (aI v4), some (aI v5), some (aI v6), some (aI v7q), none] [] h) (H : j_X8_areNear_100 v1 v2 v3 v4 v5 v6 v7 h k = some r) : Go M_X8_areNear (some (aI r), h) 100 [none, some (aA v1), some (aA v2), some (aI v3), some (aI v4), some (aI v5), some (aI v6), some (aI v7), none] [] h := by
  unfold j_X8_areNear_100 at H
  refine go_iinc (v := (v7 + (1 : Int32))) (loc2 := [none, some (aA v1), some (aA v2), some (aI v3), some (aI v4), some (aI v5), some (aI v6), some (aI (v7 + (1 : Int32))), none]) dX8_areNear_100 rfl rfl (by decide) rfl ?_
  refine go_goto (tgt := 13) dX8_areNear_103 (by decide) ?_
  exact Hk (v7 + (1 : Int32)) H
def b_X8_areNear_13 (v1 : Nat) (v2 : Nat) (v3 : Int32) (v4 : Int32) (v5 : Int32) (v6 : Int32) (h : Hp) (k : Int32 → Option Int32) (v7 : Int32) : Option Int32 :=
  if v6 ≤ v7 then (some (0 : Int32)) else l_X8_areNear_23 v1 v2 v3 v4 v5 v6 v7 h (j_X8_areNear_100 v1 v2 v3 v4 v5 v6 v7 h k) (0 : Int32)
set_option maxRecDepth 20000 in
theorem okb_X8_areNear_13 {r : Int32} (v1 : Nat) (v2 : Nat) (v3 : Int32) (v4 : Int32) (v5 : Int32) (v6 : Int32) (h : Hp) (k : Int32 → Option Int32) (v7 : Int32) (Hk : ∀ (v7q : Int32), k v7q = some r → Go M_X8_areNear (some (aI r), h) 13 [none, some (aA v1), some (aA v2), some (aI v3), some (aI v4), some (aI v5), some (aI v6), some (aI v7q), none] [] h) (H : b_X8_areNear_13 v1 v2 v3 v4 v5 v6 h k v7 = some r) : Go M_X8_areNear (some (aI r), h) 13 [none, some (aA v1), some (aA v2), some (aI v3), some (aI v4), some (aI v5), some (aI v6), some (aI v7), none] [] h := by
  unfold b_X8_areNear_13 at H
  refine go_iload dX8_areNear_13 rfl ?_
  refine go_iload dX8_areNear_15 rfl ?_
  refine go_icmp_ge (tgt := 106) dX8_areNear_17 (by decide) (fun c1 => ?_) (fun c1 => ?_)
  · replace H := (gm_ite H).1 c1
    refine go_iconst (v := (0 : Int32)) dX8_areNear_106 rfl ?_
    obtain rfl := Option.some.inj H
    exact go_ireturn (x := (0 : Int32)) dX8_areNear_107 (tyI_bool rfl (by decide))
  · replace H := (gm_ite H).2 c1
    refine go_iconst (v := (0 : Int32)) dX8_areNear_20 rfl ?_
    refine go_istore (loc2 := [none, some (aA v1), some (aA v2), some (aI v3), some (aI v4), some (aI v5), some (aI v6), some (aI v7), some (aI (0 : Int32))]) dX8_areNear_21 (by decide) rfl ?_
    refine okl_X8_areNear_23 v1 v2 v3 v4 v5 v6 v7 h (j_X8_areNear_100 v1 v2 v3 v4 v5 v6 v7 h k) (0 : Int32) ?_ H
    · intro  H
      exact okj_X8_areNear_100 v1 v2 v3 v4 v5 v6 v7 h k Hk H
def l_X8_areNear_13 (v1 : Nat) (v2 : Nat) (v3 : Int32) (v4 : Int32) (v5 : Int32) (v6 : Int32) (h : Hp) (v7 : Int32) : Option Int32 := loopK FUEL (fun (k : Int32 → Option Int32) (s : Int32) => b_X8_areNear_13 v1 v2 v3 v4 v5 v6 h (fun v7q => k v7q) s) v7
theorem okl_X8_areNear_13 {r : Int32} (v1 : Nat) (v2 : Nat) (v3 : Int32) (v4 : Int32) (v5 : Int32) (v6 : Int32) (h : Hp) (v7 : Int32) (H : l_X8_areNear_13 v1 v2 v3 v4 v5 v6 h v7 = some r) : Go M_X8_areNear (some (aI r), h) 13 [none, some (aA v1), some (aA v2), some (aI v3), some (aI v4), some (aI v5), some (aI v6), some (aI v7), none] [] h := by
  unfold l_X8_areNear_13 at H
  exact go_loop (σ := Int32) (body := (fun (k : Int32 → Option Int32) (s : Int32) => b_X8_areNear_13 v1 v2 v3 v4 v5 v6 h (fun v7q => k v7q) s)) (fun s => [none, some (aA v1), some (aA v2), some (aI v3), some (aI v4), some (aI v5), some (aI v6), some (aI s), none]) (fun s => h) (fun k s Hk H => okb_X8_areNear_13 v1 v2 v3 v4 v5 v6 h (fun v7q => k v7q) s  (fun v7q H => Hk v7q H) H) FUEL v7 H
def m_X8_areNear (v0 : Nat) (v1 : Nat) (v2 : Nat) (v3 : Int32) (v4 : Int32) (v5 : Int32) (h : Hp) : Option Int32 :=
  (rc h v1 1 (m_X0_lengthOf v1 v4 v5 h)).bind fun x1 => l_X8_areNear_13 v1 v2 v3 v4 v5 x1 h (0 : Int32)
set_option maxRecDepth 20000 in
theorem ok_X8_areNear {r : Int32} {v0 : Nat} {v1 : Nat} {v2 : Nat} {v3 : Int32} {v4 : Int32} {v5 : Int32} {h : Hp} (H : m_X8_areNear v0 v1 v2 v3 v4 v5 h = some r) : Ev M_X8_areNear [aA v0, aA v1, aA v2, aI v3, aI v4, aI v5] h (some (aI r), h) := by
  show Go M_X8_areNear (some (aI r), h) 0 [some (aA v0), some (aA v1), some (aA v2), some (aI v3), some (aI v4), some (aI v5), none, none, none] [] h
  unfold m_X8_areNear at H
  refine go_aloadn dX8_areNear_0 rfl ?_
  refine go_iload dX8_areNear_1 rfl ?_
  refine go_iload dX8_areNear_3 rfl ?_
  obtain ⟨c1, x1, ex1, H⟩ := gm_rc H
  refine go_callV (vs := [aI v4, aI v5]) (stk := []) (o1 := (some (aI x1), h)) mk_X0_lengthOf sv_X8_areNear_82 cl_X0 rfl dX8_areNear_5 c1 rfl rfl (Nat.le_of_ble_eq_true rfl) (Nat.le_of_ble_eq_true rfl) (ok_X0_lengthOf ex1) (show Go M_X8_areNear (some (aI r), h) 8 [some (aA v0), some (aA v1), some (aA v2), some (aI v3), some (aI v4), some (aI v5), none, none, none] [aI x1] h from ?_)
  refine go_istore (loc2 := [some (aA v0), some (aA v1), some (aA v2), some (aI v3), some (aI v4), some (aI v5), some (aI x1), none, none]) dX8_areNear_8 (by decide) rfl ?_
  refine go_iconst (v := (0 : Int32)) dX8_areNear_10 rfl ?_
  refine go_istore (loc2 := [some (aA v0), some (aA v1), some (aA v2), some (aI v3), some (aI v4), some (aI v5), some (aI x1), some (aI (0 : Int32)), none]) dX8_areNear_11 (by decide) rfl ?_
  refine go_mask [false, true, true, true, true, true, true, true, false] (loc' := [none, some (aA v1), some (aA v2), some (aI v3), some (aI v4), some (aI v5), some (aI x1), some (aI (0 : Int32)), none]) rfl ?_
  exact okl_X8_areNear_13 v1 v2 v3 v4 v5 x1 h (0 : Int32) H
/-! X8_areMany -/
def j_X8_areMany_28  (s0 : Int32) (h : Hp) : Option Int32 :=
  (zb s0).bind fun x1 => some x1
set_option maxRecDepth 20000 in
theorem okj_X8_areMany_28 {r : Int32}  (s0 : Int32) (h : Hp) (H : j_X8_areMany_28 s0 h = some r) : Go M_X8_areMany (some (aI r), h) 28 [none, none, none, none, none, none] [aI s0] h := by
  unfold j_X8_areMany_28 at H
  obtain ⟨hz, H⟩ := gm_zb H
  obtain rfl := Option.some.inj H
  exact go_ireturn (x := s0) dX8_areMany_28 (tyI_bool rfl hz)
def m_X8_areMany (v0 : Nat) (v1 : Nat) (v2 : Nat) (v3 : Int32) (v4 : Int32) (v5 : Int32) (h : Hp) : Option Int32 :=
  (rc h v2 6 (m_X6_wordOf v2 v3 (0 : Int32) h)).bind fun x1 => (m_X2_timesIn v1 x1 v4 v5 h).bind fun x2 => (rc h v2 6 (m_X6_numberOf v2 v3 (0 : Int32) h)).bind fun x3 => j_X8_areMany_28 (if x2 < x3 then (0 : Int32) else (1 : Int32)) h
set_option maxRecDepth 20000 in
theorem ok_X8_areMany {r : Int32} {v0 : Nat} {v1 : Nat} {v2 : Nat} {v3 : Int32} {v4 : Int32} {v5 : Int32} {h : Hp} (H : m_X8_areMany v0 v1 v2 v3 v4 v5 h = some r) : Ev M_X8_areMany [aA v0, aA v1, aA v2, aI v3, aI v4, aI v5] h (some (aI r), h) := by
  show Go M_X8_areMany (some (aI r), h) 0 [some (aA v0), some (aA v1), some (aA v2), some (aI v3), some (aI v4), some (aI v5)] [] h
  unfold m_X8_areMany at H
  refine go_aloadn dX8_areMany_0 rfl ?_
  refine go_aloadn dX8_areMany_1 rfl ?_
  refine go_iloadn dX8_areMany_2 rfl ?_
  refine go_iconst (v := (0 : Int32)) dX8_areMany_3 rfl ?_
  obtain ⟨c1, x1, ex1, H⟩ := gm_rc H
  refine go_callV (vs := [aI v3, aI (0 : Int32)]) (stk := [aA v1]) (o1 := (some (aI x1), h)) mk_X6_wordOf sv_X8_areMany_70 cl_X6 rfl dX8_areMany_4 c1 rfl rfl (Nat.le_of_ble_eq_true rfl) (Nat.le_of_ble_eq_true rfl) (ok_X6_wordOf ex1) (show Go M_X8_areMany (some (aI r), h) 7 [some (aA v0), some (aA v1), some (aA v2), some (aI v3), some (aI v4), some (aI v5)] [aI x1, aA v1] h from ?_)
  refine go_iload dX8_areMany_7 rfl ?_
  refine go_iload dX8_areMany_9 rfl ?_
  obtain ⟨x2, ex2, H⟩ := bind_some H
  refine go_callS (vs := [aA v1, aI x1, aI v4, aI v5]) (stk := []) (o1 := (some (aI x2), h)) mk_X2_timesIn ss_X8_areMany_73 dX8_areMany_11 rfl rfl (Nat.le_of_ble_eq_true rfl) (Nat.le_of_ble_eq_true rfl) (ok_X2_timesIn ex2) (show Go M_X8_areMany (some (aI r), h) 14 [some (aA v0), some (aA v1), some (aA v2), some (aI v3), some (aI v4), some (aI v5)] [aI x2] h from ?_)
  refine go_aloadn dX8_areMany_14 rfl ?_
  refine go_iloadn dX8_areMany_15 rfl ?_
  refine go_iconst (v := (0 : Int32)) dX8_areMany_16 rfl ?_
  obtain ⟨c3, x3, ex3, H⟩ := gm_rc H
  refine go_callV (vs := [aI v3, aI (0 : Int32)]) (stk := [aI x2]) (o1 := (some (aI x3), h)) mk_X6_numberOf sv_X8_areMany_37 cl_X6 rfl dX8_areMany_17 c3 rfl rfl (Nat.le_of_ble_eq_true rfl) (Nat.le_of_ble_eq_true rfl) (ok_X6_numberOf ex3) (show Go M_X8_areMany (some (aI r), h) 20 [some (aA v0), some (aA v1), some (aA v2), some (aI v3), some (aI v4), some (aI v5)] [aI x3, aI x2] h from ?_)
  refine go_icmp_lt (tgt := 27) dX8_areMany_20 (by decide) (fun c4 => ?_) (fun c4 => ?_)
  · rw [if_pos c4] at H
    refine go_iconst (v := (0 : Int32)) dX8_areMany_27 rfl ?_
    refine go_mask [false, false, false, false, false, false] (loc' := [none, none, none, none, none, none]) rfl ?_
    exact okj_X8_areMany_28 (0 : Int32) h  H
  · rw [if_neg c4] at H
    refine go_iconst (v := (1 : Int32)) dX8_areMany_23 rfl ?_
    refine go_goto (tgt := 28) dX8_areMany_24 (by decide) ?_
    refine go_mask [false, false, false, false, false, false] (loc' := [none, none, none, none, none, none]) rfl ?_
    exact okj_X8_areMany_28 (1 : Int32) h  H
/-! X8_lookAtWords -/
def j_X8_lookAtWords_99 (v0 : Nat) (v1 : Nat) (v2 : Nat) (v3 : Int32) (v4 : Int32) (v5 : Int32) (v7 : Int32) (s0 : Int32) (s1 : Int32) (h : Hp) (k : Int32 → Int32 → Option Int32) : Option Int32 :=
  k (s0 ||| s1) (v7 + (1 : Int32))
set_option maxRecDepth 20000 in
theorem okj_X8_lookAtWords_99 {r : Int32} (v0 : Nat) (v1 : Nat) (v2 : Nat) (v3 : Int32) (v4 : Int32) (v5 : Int32) (v7 : Int32) (s0 : Int32) (s1 : Int32) (h : Hp) (k : Int32 → Int32 → Option Int32) (Hk : ∀ (v6q : Int32) (v7q : Int32), k v6q v7q = some r → Go M_X8_lookAtWords (some (aI r), h) 13 [some (aA v0), some (aA v1), some (aA v2), some (aI v3), some (aI v4), some (aI v5), some (aI v6q), some (aI v7q), none] [] h) (H : j_X8_lookAtWords_99 v0 v1 v2 v3 v4 v5 v7 s0 s1 h k = some r) : Go M_X8_lookAtWords (some (aI r), h) 99 [some (aA v0), some (aA v1), some (aA v2), some (aI v3), some (aI v4), some (aI v5), none, some (aI v7), none] [aI s1, aI s0] h := by
  unfold j_X8_lookAtWords_99 at H
  refine go_ior dX8_lookAtWords_99 ?_
  refine go_istore (loc2 := [some (aA v0), some (aA v1), some (aA v2), some (aI v3), some (aI v4), some (aI v5), some (aI (s0 ||| s1)), some (aI v7), none]) dX8_lookAtWords_100 (by decide) rfl ?_
  refine go_iinc (v := (v7 + (1 : Int32))) (loc2 := [some (aA v0), some (aA v1), some (aA v2), some (aI v3), some (aI v4), some (aI v5), some (aI (s0 ||| s1)), some (aI (v7 + (1 : Int32))), none]) dX8_lookAtWords_102 rfl rfl (by decide) rfl ?_
  refine go_goto (tgt := 13) dX8_lookAtWords_105 (by decide) ?_
  exact Hk (s0 ||| s1) (v7 + (1 : Int32)) H
def j_X8_lookAtWords_82 (v0 : Nat) (v1 : Nat) (v2 : Nat) (v3 : Int32) (v4 : Int32) (v5 : Int32) (v6 : Int32) (v7 : Int32) (s0 : Int32) (h : Hp) (k : Int32 → Int32 → Option Int32) : Option Int32 :=
  if s0 = 0 then j_X8_lookAtWords_99 v0 v1 v2 v3 v4 v5 v7 v6 (0 : Int32) h k else j_X8_lookAtWords_99 v0 v1 v2 v3 v4 v5 v7 v6 (ishlF (1 : Int32) v7) h k
set_option maxRecDepth 20000 in
theorem okj_X8_lookAtWords_82 {r : Int32} (v0 : Nat) (v1 : Nat) (v2 : Nat) (v3 : Int32) (v4 : Int32) (v5 : Int32) (v6 : Int32) (v7 : Int32) (s0 : Int32) (h : Hp) (k : Int32 → Int32 → Option Int32) (Hk : ∀ (v6q : Int32) (v7q : Int32), k v6q v7q = some r → Go M_X8_lookAtWords (some (aI r), h) 13 [some (aA v0), some (aA v1), some (aA v2), some (aI v3), some (aI v4), some (aI v5), some (aI v6q), some (aI v7q), none] [] h) (H : j_X8_lookAtWords_82 v0 v1 v2 v3 v4 v5 v6 v7 s0 h k = some r) : Go M_X8_lookAtWords (some (aI r), h) 82 [some (aA v0), some (aA v1), some (aA v2), some (aI v3), some (aI v4), some (aI v5), some (aI v6), some (aI v7), none] [aI s0] h := by
  unfold j_X8_lookAtWords_82 at H
  refine go_istore (loc2 := [some (aA v0), some (aA v1), some (aA v2), some (aI v3), some (aI v4), some (aI v5), some (aI v6), some (aI v7), some (aI s0)]) dX8_lookAtWords_82 (by decide) rfl ?_
  refine go_iload dX8_lookAtWords_84 rfl ?_
  refine go_iload dX8_lookAtWords_86 rfl ?_
  refine go_if_eq (tgt := 98) dX8_lookAtWords_88 (by decide) (fun c1 => ?_) (fun c1 => ?_)
  · replace H := (gm_ite H).1 c1
    refine go_iconst (v := (0 : Int32)) dX8_lookAtWords_98 rfl ?_
    refine go_mask [true, true, true, true, true, true, false, true, false] (loc' := [some (aA v0), some (aA v1), some (aA v2), some (aI v3), some (aI v4), some (aI v5), none, some (aI v7), none]) rfl ?_
    exact okj_X8_lookAtWords_99 v0 v1 v2 v3 v4 v5 v7 v6 (0 : Int32) h k Hk H
  · replace H := (gm_ite H).2 c1
    refine go_iconst (v := (1 : Int32)) dX8_lookAtWords_91 rfl ?_
    refine go_iload dX8_lookAtWords_92 rfl ?_
    refine go_ishl dX8_lookAtWords_94 ?_
    refine go_goto (tgt := 99) dX8_lookAtWords_95 (by decide) ?_
    refine go_mask [true, true, true, true, true, true, false, true, false] (loc' := [some (aA v0), some (aA v1), some (aA v2), some (aI v3), some (aI v4), some (aI v5), none, some (aI v7), none]) rfl ?_
    exact okj_X8_lookAtWords_99 v0 v1 v2 v3 v4 v5 v7 v6 (ishlF (1 : Int32) v7) h k Hk H
def b_X8_lookAtWords_13 (v0 : Nat) (v1 : Nat) (v2 : Nat) (v3 : Int32) (v4 : Int32) (v5 : Int32) (h : Hp) (k : Int32 → Int32 → Option Int32) (v6 : Int32) (v7 : Int32) : Option Int32 :=
  (rc h v1 1 (m_X0_versionsOf v1 v4 h)).bind fun x1 => if x1 ≤ v7 then (some v6) else if ¬ v5 = 0 then (if ¬ v5 = (1 : Int32) then ((rc h v0 8 (m_X8_areMany v0 v1 v2 v3 v4 v7 h)).bind fun x2 => j_X8_lookAtWords_82 v0 v1 v2 v3 v4 v5 v6 v7 x2 h k) else (rc h v0 8 (m_X8_areNear v0 v1 v2 v3 v4 v7 h)).bind fun x3 => j_X8_lookAtWords_82 v0 v1 v2 v3 v4 v5 v6 v7 x3 h k) else (rc h v0 8 (m_X8_beginnings v0 v1 v2 v3 v4 v7 h)).bind fun x4 => j_X8_lookAtWords_82 v0 v1 v2 v3 v4 v5 v6 v7 (if x4 ≤ 0 then (0 : Int32) else (1 : Int32)) h k
set_option maxRecDepth 20000 in
theorem okb_X8_lookAtWords_13 {r : Int32} (v0 : Nat) (v1 : Nat) (v2 : Nat) (v3 : Int32) (v4 : Int32) (v5 : Int32) (h : Hp) (k : Int32 → Int32 → Option Int32) (v6 : Int32) (v7 : Int32) (Hk : ∀ (v6q : Int32) (v7q : Int32), k v6q v7q = some r → Go M_X8_lookAtWords (some (aI r), h) 13 [some (aA v0), some (aA v1), some (aA v2), some (aI v3), some (aI v4), some (aI v5), some (aI v6q), some (aI v7q), none] [] h) (H : b_X8_lookAtWords_13 v0 v1 v2 v3 v4 v5 h k v6 v7 = some r) : Go M_X8_lookAtWords (some (aI r), h) 13 [some (aA v0), some (aA v1), some (aA v2), some (aI v3), some (aI v4), some (aI v5), some (aI v6), some (aI v7), none] [] h := by
  unfold b_X8_lookAtWords_13 at H
  refine go_iload dX8_lookAtWords_13 rfl ?_
  refine go_aloadn dX8_lookAtWords_15 rfl ?_
  refine go_iload dX8_lookAtWords_16 rfl ?_
  obtain ⟨c1, x1, ex1, H⟩ := gm_rc H
  refine go_callV (vs := [aI v4]) (stk := [aI v7]) (o1 := (some (aI x1), h)) mk_X0_versionsOf sv_X8_lookAtWords_54 cl_X0 rfl dX8_lookAtWords_18 c1 rfl rfl (Nat.le_of_ble_eq_true rfl) (Nat.le_of_ble_eq_true rfl) (ok_X0_versionsOf ex1) (show Go M_X8_lookAtWords (some (aI r), h) 21 [some (aA v0), some (aA v1), some (aA v2), some (aI v3), some (aI v4), some (aI v5), some (aI v6), some (aI v7), none] [aI x1, aI v7] h from ?_)
  refine go_icmp_ge (tgt := 108) dX8_lookAtWords_21 (by decide) (fun c2 => ?_) (fun c2 => ?_)
  · replace H := (gm_ite H).1 c2
    refine go_iload dX8_lookAtWords_108 rfl ?_
    obtain rfl := Option.some.inj H
    exact go_ireturn dX8_lookAtWords_110 (tyI_int rfl)
  · replace H := (gm_ite H).2 c2
    refine go_iload dX8_lookAtWords_24 rfl ?_
    refine go_if_ne (tgt := 51) dX8_lookAtWords_26 (by decide) (fun c3 => ?_) (fun c3 => ?_)
    · replace H := (gm_ite H).1 c3
      refine go_iload dX8_lookAtWords_51 rfl ?_
      refine go_iconst (v := (1 : Int32)) dX8_lookAtWords_53 rfl ?_
      refine go_icmp_ne (tgt := 71) dX8_lookAtWords_54 (by decide) (fun c4 => ?_) (fun c4 => ?_)
      · replace H := (gm_ite H).1 c4
        refine go_aloadn dX8_lookAtWords_71 rfl ?_
        refine go_aloadn dX8_lookAtWords_72 rfl ?_
        refine go_aloadn dX8_lookAtWords_73 rfl ?_
        refine go_iloadn dX8_lookAtWords_74 rfl ?_
        refine go_iload dX8_lookAtWords_75 rfl ?_
        refine go_iload dX8_lookAtWords_77 rfl ?_
        obtain ⟨c5, x2, ex2, H⟩ := gm_rc H
        refine go_callV (vs := [aA v1, aA v2, aI v3, aI v4, aI v7]) (stk := []) (o1 := (some (aI x2), h)) mk_X8_areMany sv_X8_lookAtWords_67 cl_X8 rfl dX8_lookAtWords_79 c5 rfl rfl (Nat.le_of_ble_eq_true rfl) (Nat.le_of_ble_eq_true rfl) (ok_X8_areMany ex2) (show Go M_X8_lookAtWords (some (aI r), h) 82 [some (aA v0), some (aA v1), some (aA v2), some (aI v3), some (aI v4), some (aI v5), some (aI v6), some (aI v7), none] [aI x2] h from ?_)
        exact okj_X8_lookAtWords_82 v0 v1 v2 v3 v4 v5 v6 v7 x2 h k Hk H
      · replace H := (gm_ite H).2 c4
        refine go_aloadn dX8_lookAtWords_57 rfl ?_
        refine go_aloadn dX8_lookAtWords_58 rfl ?_
        refine go_aloadn dX8_lookAtWords_59 rfl ?_
        refine go_iloadn dX8_lookAtWords_60 rfl ?_
        refine go_iload dX8_lookAtWords_61 rfl ?_
        refine go_iload dX8_lookAtWords_63 rfl ?_
        obtain ⟨c6, x3, ex3, H⟩ := gm_rc H
        refine go_callV (vs := [aA v1, aA v2, aI v3, aI v4, aI v7]) (stk := []) (o1 := (some (aI x3), h)) mk_X8_areNear sv_X8_lookAtWords_63 cl_X8 rfl dX8_lookAtWords_65 c6 rfl rfl (Nat.le_of_ble_eq_true rfl) (Nat.le_of_ble_eq_true rfl) (ok_X8_areNear ex3) (show Go M_X8_lookAtWords (some (aI r), h) 68 [some (aA v0), some (aA v1), some (aA v2), some (aI v3), some (aI v4), some (aI v5), some (aI v6), some (aI v7), none] [aI x3] h from ?_)
        refine go_goto (tgt := 82) dX8_lookAtWords_68 (by decide) ?_
        exact okj_X8_lookAtWords_82 v0 v1 v2 v3 v4 v5 v6 v7 x3 h k Hk H
    · replace H := (gm_ite H).2 c3
      refine go_aloadn dX8_lookAtWords_29 rfl ?_
      refine go_aloadn dX8_lookAtWords_30 rfl ?_
      refine go_aloadn dX8_lookAtWords_31 rfl ?_
      refine go_iloadn dX8_lookAtWords_32 rfl ?_
      refine go_iload dX8_lookAtWords_33 rfl ?_
      refine go_iload dX8_lookAtWords_35 rfl ?_
      obtain ⟨c7, x4, ex4, H⟩ := gm_rc H
      refine go_callV (vs := [aA v1, aA v2, aI v3, aI v4, aI v7]) (stk := []) (o1 := (some (aI x4), h)) mk_X8_beginnings sv_X8_lookAtWords_57 cl_X8 rfl dX8_lookAtWords_37 c7 rfl rfl (Nat.le_of_ble_eq_true rfl) (Nat.le_of_ble_eq_true rfl) (ok_X8_beginnings ex4) (show Go M_X8_lookAtWords (some (aI r), h) 40 [some (aA v0), some (aA v1), some (aA v2), some (aI v3), some (aI v4), some (aI v5), some (aI v6), some (aI v7), none] [aI x4] h from ?_)
      refine go_if_le (tgt := 47) dX8_lookAtWords_40 (by decide) (fun c8 => ?_) (fun c8 => ?_)
      · rw [if_pos c8] at H
        refine go_iconst (v := (0 : Int32)) dX8_lookAtWords_47 rfl ?_
        refine go_goto (tgt := 82) dX8_lookAtWords_48 (by decide) ?_
        exact okj_X8_lookAtWords_82 v0 v1 v2 v3 v4 v5 v6 v7 (0 : Int32) h k Hk H
      · rw [if_neg c8] at H
        refine go_iconst (v := (1 : Int32)) dX8_lookAtWords_43 rfl ?_
        refine go_goto (tgt := 82) dX8_lookAtWords_44 (by decide) ?_
        exact okj_X8_lookAtWords_82 v0 v1 v2 v3 v4 v5 v6 v7 (1 : Int32) h k Hk H
def l_X8_lookAtWords_13 (v0 : Nat) (v1 : Nat) (v2 : Nat) (v3 : Int32) (v4 : Int32) (v5 : Int32) (h : Hp) (v6 : Int32) (v7 : Int32) : Option Int32 := loopK FUEL (fun (k : Int32 × Int32 → Option Int32) (s : Int32 × Int32) => b_X8_lookAtWords_13 v0 v1 v2 v3 v4 v5 h (fun v6q v7q => k (v6q, v7q)) s.1 s.2) (v6, v7)
theorem okl_X8_lookAtWords_13 {r : Int32} (v0 : Nat) (v1 : Nat) (v2 : Nat) (v3 : Int32) (v4 : Int32) (v5 : Int32) (h : Hp) (v6 : Int32) (v7 : Int32) (H : l_X8_lookAtWords_13 v0 v1 v2 v3 v4 v5 h v6 v7 = some r) : Go M_X8_lookAtWords (some (aI r), h) 13 [some (aA v0), some (aA v1), some (aA v2), some (aI v3), some (aI v4), some (aI v5), some (aI v6), some (aI v7), none] [] h := by
  unfold l_X8_lookAtWords_13 at H
  exact go_loop (σ := Int32 × Int32) (body := (fun (k : Int32 × Int32 → Option Int32) (s : Int32 × Int32) => b_X8_lookAtWords_13 v0 v1 v2 v3 v4 v5 h (fun v6q v7q => k (v6q, v7q)) s.1 s.2)) (fun s => [some (aA v0), some (aA v1), some (aA v2), some (aI v3), some (aI v4), some (aI v5), some (aI s.1), some (aI s.2), none]) (fun s => h) (fun k s Hk H => okb_X8_lookAtWords_13 v0 v1 v2 v3 v4 v5 h (fun v6q v7q => k (v6q, v7q)) s.1 s.2  (fun v6q v7q H => Hk (v6q, v7q) H) H) FUEL (v6, v7) H
def m_X8_lookAtWords (v0 : Nat) (v1 : Nat) (v2 : Nat) (v3 : Int32) (v4 : Int32) (h : Hp) : Option Int32 :=
  (rc h v2 6 (m_X6_kindOf v2 v3 h)).bind fun x1 => l_X8_lookAtWords_13 v0 v1 v2 v3 v4 x1 h (0 : Int32) (0 : Int32)
set_option maxRecDepth 20000 in
theorem ok_X8_lookAtWords {r : Int32} {v0 : Nat} {v1 : Nat} {v2 : Nat} {v3 : Int32} {v4 : Int32} {h : Hp} (H : m_X8_lookAtWords v0 v1 v2 v3 v4 h = some r) : Ev M_X8_lookAtWords [aA v0, aA v1, aA v2, aI v3, aI v4] h (some (aI r), h) := by
  show Go M_X8_lookAtWords (some (aI r), h) 0 [some (aA v0), some (aA v1), some (aA v2), some (aI v3), some (aI v4), none, none, none, none] [] h
  unfold m_X8_lookAtWords at H
  refine go_aloadn dX8_lookAtWords_0 rfl ?_
  refine go_iloadn dX8_lookAtWords_1 rfl ?_
  obtain ⟨c1, x1, ex1, H⟩ := gm_rc H
  refine go_callV (vs := [aI v3]) (stk := []) (o1 := (some (aI x1), h)) mk_X6_kindOf sv_X8_lookAtWords_44 cl_X6 rfl dX8_lookAtWords_2 c1 rfl rfl (Nat.le_of_ble_eq_true rfl) (Nat.le_of_ble_eq_true rfl) (ok_X6_kindOf ex1) (show Go M_X8_lookAtWords (some (aI r), h) 5 [some (aA v0), some (aA v1), some (aA v2), some (aI v3), some (aI v4), none, none, none, none] [aI x1] h from ?_)
  refine go_istore (loc2 := [some (aA v0), some (aA v1), some (aA v2), some (aI v3), some (aI v4), some (aI x1), none, none, none]) dX8_lookAtWords_5 (by decide) rfl ?_
  refine go_iconst (v := (0 : Int32)) dX8_lookAtWords_7 rfl ?_
  refine go_istore (loc2 := [some (aA v0), some (aA v1), some (aA v2), some (aI v3), some (aI v4), some (aI x1), some (aI (0 : Int32)), none, none]) dX8_lookAtWords_8 (by decide) rfl ?_
  refine go_iconst (v := (0 : Int32)) dX8_lookAtWords_10 rfl ?_
  refine go_istore (loc2 := [some (aA v0), some (aA v1), some (aA v2), some (aI v3), some (aI v4), some (aI x1), some (aI (0 : Int32)), some (aI (0 : Int32)), none]) dX8_lookAtWords_11 (by decide) rfl ?_
  exact okl_X8_lookAtWords_13 v0 v1 v2 v3 v4 x1 h (0 : Int32) (0 : Int32) H
/-! X8_lookIn -/
def m_X8_lookIn (v0 : Nat) (v1 : Nat) (v2 : Nat) (v3 : Int32) (v4 : Int32) (h : Hp) : Option Int32 :=
  (rc h v2 6 (m_X6_numberOf v2 v3 (0 : Int32) h)).bind fun x1 => (rc h v0 8 (m_X8_held v0 x1 v4 h)).bind fun x2 => (rc h v2 6 (m_X6_numberOf v2 v3 (1 : Int32) h)).bind fun x3 => (rc h v0 8 (m_X8_held v0 x3 v4 h)).bind fun x4 => (rc h v2 6 (m_X6_kindOf v2 v3 h)).bind fun x5 => if x5 = (3 : Int32) then ((rc h v1 1 (m_X0_everyVersion v1 v4 h)).bind fun x6 => some (x6 &&& (x2 ^^^ (-1 : Int32)))) else if x5 = (4 : Int32) then ((rc h v1 1 (m_X0_everyVersion v1 v4 h)).bind fun x7 => some (x7 &&& (-(x2 &&& (-x2))))) else if x5 = (5 : Int32) then (some (x2 &&& ((ishlF x2 (1 : Int32)) ^^^ (-1 : Int32)))) else if x5 = (6 : Int32) then (some (x2 &&& x4)) else if x5 = (7 : Int32) then (some (x2 ||| x4)) else (rc h v0 8 (m_X8_lookAtWords v0 v1 v2 v3 v4 h)).bind fun x8 => some x8
set_option maxRecDepth 20000 in
theorem ok_X8_lookIn {r : Int32} {v0 : Nat} {v1 : Nat} {v2 : Nat} {v3 : Int32} {v4 : Int32} {h : Hp} (H : m_X8_lookIn v0 v1 v2 v3 v4 h = some r) : Ev M_X8_lookIn [aA v0, aA v1, aA v2, aI v3, aI v4] h (some (aI r), h) := by
  show Go M_X8_lookIn (some (aI r), h) 0 [some (aA v0), some (aA v1), some (aA v2), some (aI v3), some (aI v4), none, none] [] h
  unfold m_X8_lookIn at H
  refine go_aloadn dX8_lookIn_0 rfl ?_
  refine go_aloadn dX8_lookIn_1 rfl ?_
  refine go_iloadn dX8_lookIn_2 rfl ?_
  refine go_iconst (v := (0 : Int32)) dX8_lookIn_3 rfl ?_
  obtain ⟨c1, x1, ex1, H⟩ := gm_rc H
  refine go_callV (vs := [aI v3, aI (0 : Int32)]) (stk := [aA v0]) (o1 := (some (aI x1), h)) mk_X6_numberOf sv_X8_lookIn_37 cl_X6 rfl dX8_lookIn_4 c1 rfl rfl (Nat.le_of_ble_eq_true rfl) (Nat.le_of_ble_eq_true rfl) (ok_X6_numberOf ex1) (show Go M_X8_lookIn (some (aI r), h) 7 [some (aA v0), some (aA v1), some (aA v2), some (aI v3), some (aI v4), none, none] [aI x1, aA v0] h from ?_)
  refine go_iload dX8_lookIn_7 rfl ?_
  obtain ⟨c2, x2, ex2, H⟩ := gm_rc H
  refine go_callV (vs := [aI x1, aI v4]) (stk := []) (o1 := (some (aI x2), h)) mk_X8_held sv_X8_lookIn_41 cl_X8 rfl dX8_lookIn_9 c2 rfl rfl (Nat.le_of_ble_eq_true rfl) (Nat.le_of_ble_eq_true rfl) (ok_X8_held ex2) (show Go M_X8_lookIn (some (aI r), h) 12 [some (aA v0), some (aA v1), some (aA v2), some (aI v3), some (aI v4), none, none] [aI x2] h from ?_)
  refine go_istore (loc2 := [some (aA v0), some (aA v1), some (aA v2), some (aI v3), some (aI v4), some (aI x2), none]) dX8_lookIn_12 (by decide) rfl ?_
  refine go_aloadn dX8_lookIn_14 rfl ?_
  refine go_aloadn dX8_lookIn_15 rfl ?_
  refine go_iloadn dX8_lookIn_16 rfl ?_
  refine go_iconst (v := (1 : Int32)) dX8_lookIn_17 rfl ?_
  obtain ⟨c3, x3, ex3, H⟩ := gm_rc H
  refine go_callV (vs := [aI v3, aI (1 : Int32)]) (stk := [aA v0]) (o1 := (some (aI x3), h)) mk_X6_numberOf sv_X8_lookIn_37 cl_X6 rfl dX8_lookIn_18 c3 rfl rfl (Nat.le_of_ble_eq_true rfl) (Nat.le_of_ble_eq_true rfl) (ok_X6_numberOf ex3) (show Go M_X8_lookIn (some (aI r), h) 21 [some (aA v0), some (aA v1), some (aA v2), some (aI v3), some (aI v4), some (aI x2), none] [aI x3, aA v0] h from ?_)
  refine go_iload dX8_lookIn_21 rfl ?_
  obtain ⟨c4, x4, ex4, H⟩ := gm_rc H
  refine go_callV (vs := [aI x3, aI v4]) (stk := []) (o1 := (some (aI x4), h)) mk_X8_held sv_X8_lookIn_41 cl_X8 rfl dX8_lookIn_23 c4 rfl rfl (Nat.le_of_ble_eq_true rfl) (Nat.le_of_ble_eq_true rfl) (ok_X8_held ex4) (show Go M_X8_lookIn (some (aI r), h) 26 [some (aA v0), some (aA v1), some (aA v2), some (aI v3), some (aI v4), some (aI x2), none] [aI x4] h from ?_)
  refine go_istore (loc2 := [some (aA v0), some (aA v1), some (aA v2), some (aI v3), some (aI v4), some (aI x2), some (aI x4)]) dX8_lookIn_26 (by decide) rfl ?_
  refine go_aloadn dX8_lookIn_28 rfl ?_
  refine go_iloadn dX8_lookIn_29 rfl ?_
  obtain ⟨c5, x5, ex5, H⟩ := gm_rc H
  refine go_callV (vs := [aI v3]) (stk := []) (o1 := (some (aI x5), h)) mk_X6_kindOf sv_X8_lookIn_44 cl_X6 rfl dX8_lookIn_30 c5 rfl rfl (Nat.le_of_ble_eq_true rfl) (Nat.le_of_ble_eq_true rfl) (ok_X6_kindOf ex5) (show Go M_X8_lookIn (some (aI r), h) 33 [some (aA v0), some (aA v1), some (aA v2), some (aI v3), some (aI v4), some (aI x2), some (aI x4)] [aI x5] h from ?_)
  by_cases c6 : x5 = (3 : Int32)
  · replace H := (gm_ite H).1 c6
    refine go_eqI c6 ?_
    refine go_tableIn (tgt := 68) dX8_lookIn_33 (by decide) (by decide) rfl (by decide) ?_
    refine go_aloadn dX8_lookIn_68 rfl ?_
    refine go_iload dX8_lookIn_69 rfl ?_
    obtain ⟨c7, x6, ex6, H⟩ := gm_rc H
    refine go_callV (vs := [aI v4]) (stk := []) (o1 := (some (aI x6), h)) mk_X0_everyVersion sv_X8_lookIn_48 cl_X0 rfl dX8_lookIn_71 c7 rfl rfl (Nat.le_of_ble_eq_true rfl) (Nat.le_of_ble_eq_true rfl) (ok_X0_everyVersion ex6) (show Go M_X8_lookIn (some (aI r), h) 74 [some (aA v0), some (aA v1), some (aA v2), some (aI v3), some (aI v4), some (aI x2), some (aI x4)] [aI x6] h from ?_)
    refine go_iload dX8_lookIn_74 rfl ?_
    refine go_iconst (v := (-1 : Int32)) dX8_lookIn_76 rfl ?_
    refine go_ixor dX8_lookIn_77 ?_
    refine go_iand dX8_lookIn_78 ?_
    obtain rfl := Option.some.inj H
    exact go_ireturn dX8_lookIn_79 (tyI_int rfl)
  · replace H := (gm_ite H).2 c6
    by_cases c8 : x5 = (4 : Int32)
    · replace H := (gm_ite H).1 c8
      refine go_eqI c8 ?_
      refine go_tableIn (tgt := 80) dX8_lookIn_33 (by decide) (by decide) rfl (by decide) ?_
      refine go_aloadn dX8_lookIn_80 rfl ?_
      refine go_iload dX8_lookIn_81 rfl ?_
      obtain ⟨c9, x7, ex7, H⟩ := gm_rc H
      refine go_callV (vs := [aI v4]) (stk := []) (o1 := (some (aI x7), h)) mk_X0_everyVersion sv_X8_lookIn_48 cl_X0 rfl dX8_lookIn_83 c9 rfl rfl (Nat.le_of_ble_eq_true rfl) (Nat.le_of_ble_eq_true rfl) (ok_X0_everyVersion ex7) (show Go M_X8_lookIn (some (aI r), h) 86 [some (aA v0), some (aA v1), some (aA v2), some (aI v3), some (aI v4), some (aI x2), some (aI x4)] [aI x7] h from ?_)
      refine go_iload dX8_lookIn_86 rfl ?_
      refine go_iload dX8_lookIn_88 rfl ?_
      refine go_ineg dX8_lookIn_90 ?_
      refine go_iand dX8_lookIn_91 ?_
      refine go_ineg dX8_lookIn_92 ?_
      refine go_iand dX8_lookIn_93 ?_
      obtain rfl := Option.some.inj H
      exact go_ireturn dX8_lookIn_94 (tyI_int rfl)
    · replace H := (gm_ite H).2 c8
      by_cases c10 : x5 = (5 : Int32)
      · replace H := (gm_ite H).1 c10
        refine go_eqI c10 ?_
        refine go_tableIn (tgt := 95) dX8_lookIn_33 (by decide) (by decide) rfl (by decide) ?_
        refine go_iload dX8_lookIn_95 rfl ?_
        refine go_iload dX8_lookIn_97 rfl ?_
        refine go_iconst (v := (1 : Int32)) dX8_lookIn_99 rfl ?_
        refine go_ishl dX8_lookIn_100 ?_
        refine go_iconst (v := (-1 : Int32)) dX8_lookIn_101 rfl ?_
        refine go_ixor dX8_lookIn_102 ?_
        refine go_iand dX8_lookIn_103 ?_
        obtain rfl := Option.some.inj H
        exact go_ireturn dX8_lookIn_104 (tyI_int rfl)
      · replace H := (gm_ite H).2 c10
        by_cases c11 : x5 = (6 : Int32)
        · replace H := (gm_ite H).1 c11
          refine go_eqI c11 ?_
          refine go_tableIn (tgt := 105) dX8_lookIn_33 (by decide) (by decide) rfl (by decide) ?_
          refine go_iload dX8_lookIn_105 rfl ?_
          refine go_iload dX8_lookIn_107 rfl ?_
          refine go_iand dX8_lookIn_109 ?_
          obtain rfl := Option.some.inj H
          exact go_ireturn dX8_lookIn_110 (tyI_int rfl)
        · replace H := (gm_ite H).2 c11
          by_cases c12 : x5 = (7 : Int32)
          · replace H := (gm_ite H).1 c12
            refine go_eqI c12 ?_
            refine go_tableIn (tgt := 111) dX8_lookIn_33 (by decide) (by decide) rfl (by decide) ?_
            refine go_iload dX8_lookIn_111 rfl ?_
            refine go_iload dX8_lookIn_113 rfl ?_
            refine go_ior dX8_lookIn_115 ?_
            obtain rfl := Option.some.inj H
            exact go_ireturn dX8_lookIn_116 (tyI_int rfl)
          · replace H := (gm_ite H).2 c12
            refine go_tableOut (tgt := 117) dX8_lookIn_33 (sw_out (fun i h1 h2 e => ?_)) (by decide) ?_
            · have h3 : i = 3 ∨ i = 4 ∨ i = 5 ∨ i = 6 ∨ i = 7 := by omega
              rcases h3 with rfl | rfl | rfl | rfl | rfl
              · exact sw_ne c6 (by decide) e
              · exact sw_ne c8 (by decide) e
              · exact sw_ne c10 (by decide) e
              · exact sw_ne c11 (by decide) e
              · exact sw_ne c12 (by decide) e
            · skip
              refine go_aloadn dX8_lookIn_117 rfl ?_
              refine go_aloadn dX8_lookIn_118 rfl ?_
              refine go_aloadn dX8_lookIn_119 rfl ?_
              refine go_iloadn dX8_lookIn_120 rfl ?_
              refine go_iload dX8_lookIn_121 rfl ?_
              obtain ⟨c13, x8, ex8, H⟩ := gm_rc H
              refine go_callV (vs := [aA v1, aA v2, aI v3, aI v4]) (stk := []) (o1 := (some (aI x8), h)) mk_X8_lookAtWords sv_X8_lookIn_51 cl_X8 rfl dX8_lookIn_123 c13 rfl rfl (Nat.le_of_ble_eq_true rfl) (Nat.le_of_ble_eq_true rfl) (ok_X8_lookAtWords ex8) (show Go M_X8_lookIn (some (aI r), h) 126 [some (aA v0), some (aA v1), some (aA v2), some (aI v3), some (aI v4), some (aI x2), some (aI x4)] [aI x8] h from ?_)
              obtain rfl := Option.some.inj H
              exact go_ireturn dX8_lookIn_126 (tyI_int rfl)
/-! X8_look -/
def b_X8_look_19 (v0 : Nat) (v1 : Nat) (v2 : Nat) (v3 : Int32) (v4 : Int32) (K58 : Hp → Option Hp) (k : Int32 → Hp → Option Hp) (v5 : Int32) (h : Hp) : Option Hp :=
  (gfI h v1 1 0).bind fun x1 => if x1 ≤ v5 then K58 h else (gfR h v0 8 0).bind fun x2 => (rc h v0 8 (m_X8_lookIn v0 v1 v2 v4 v5 h)).bind fun x3 => (m_X5_set x2 ((v4 * (4 : Int32)) + v5) x3 h).bind fun x4 => k (v5 + (1 : Int32)) x4
set_option maxRecDepth 20000 in
theorem okb_X8_look_19 {r : Hp} (v0 : Nat) (v1 : Nat) (v2 : Nat) (v3 : Int32) (v4 : Int32) (K58 : Hp → Option Hp) (k : Int32 → Hp → Option Hp) (v5 : Int32) (h : Hp) (HK58 : ∀   (hq : Hp), K58 hq = some r → Go M_X8_look (none, r) 58 [some (aA v0), some (aA v1), some (aA v2), some (aI v3), some (aI v4), none] [] hq) (Hk : ∀ (v5q : Int32) (hq : Hp), k v5q hq = some r → Go M_X8_look (none, r) 19 [some (aA v0), some (aA v1), some (aA v2), some (aI v3), some (aI v4), some (aI v5q)] [] hq) (H : b_X8_look_19 v0 v1 v2 v3 v4 K58 k v5 h = some r) : Go M_X8_look (none, r) 19 [some (aA v0), some (aA v1), some (aA v2), some (aI v3), some (aI v4), some (aI v5)] [] h := by
  unfold b_X8_look_19 at H
  refine go_iload dX8_look_19 rfl ?_
  refine go_aloadn dX8_look_21 rfl ?_
  refine gm_getI fd_X8_19 dX8_look_22 H (fun x1 H => ?_)
  refine go_icmp_ge (tgt := 58) dX8_look_25 (by decide) (fun c1 => ?_) (fun c1 => ?_)
  · replace H := (gm_ite H).1 c1
    refine go_mask [true, true, true, true, true, false] (loc' := [some (aA v0), some (aA v1), some (aA v2), some (aI v3), some (aI v4), none]) rfl ?_
    exact HK58 h H
  · replace H := (gm_ite H).2 c1
    refine go_aloadn dX8_look_28 rfl ?_
    refine gm_getR fd_X8_13 dX8_look_29 H (fun x2 H => ?_)
    refine go_iload dX8_look_32 rfl ?_
    refine go_iconst (v := (4 : Int32)) dX8_look_34 rfl ?_
    refine go_imul dX8_look_35 ?_
    refine go_iload dX8_look_36 rfl ?_
    refine go_iadd dX8_look_38 ?_
    refine go_aloadn dX8_look_39 rfl ?_
    refine go_aloadn dX8_look_40 rfl ?_
    refine go_aloadn dX8_look_41 rfl ?_
    refine go_iload dX8_look_42 rfl ?_
    refine go_iload dX8_look_44 rfl ?_
    obtain ⟨c2, x3, ex3, H⟩ := gm_rc H
    refine go_callV (vs := [aA v1, aA v2, aI v4, aI v5]) (stk := [aI ((v4 * (4 : Int32)) + v5), aA x2]) (o1 := (some (aI x3), h)) mk_X8_lookIn sv_X8_look_23 cl_X8 rfl dX8_look_46 c2 rfl rfl (Nat.le_of_ble_eq_true rfl) (Nat.le_of_ble_eq_true rfl) (ok_X8_lookIn ex3) (show Go M_X8_look (none, r) 49 [some (aA v0), some (aA v1), some (aA v2), some (aI v3), some (aI v4), some (aI v5)] [aI x3, aI ((v4 * (4 : Int32)) + v5), aA x2] h from ?_)
    obtain ⟨x4, ex4, H⟩ := bind_some H
    refine go_callS (vs := [aA x2, aI ((v4 * (4 : Int32)) + v5), aI x3]) (stk := []) (o1 := (none, x4)) mk_X5_set ss_X8_look_27 dX8_look_49 rfl rfl (Nat.le_of_ble_eq_true rfl) (Nat.le_of_ble_eq_true rfl) (ok_X5_set ex4) (show Go M_X8_look (none, r) 52 [some (aA v0), some (aA v1), some (aA v2), some (aI v3), some (aI v4), some (aI v5)] [] x4 from ?_)
    refine go_iinc (v := (v5 + (1 : Int32))) (loc2 := [some (aA v0), some (aA v1), some (aA v2), some (aI v3), some (aI v4), some (aI (v5 + (1 : Int32)))]) dX8_look_52 rfl rfl (by decide) rfl ?_
    refine go_goto (tgt := 19) dX8_look_55 (by decide) ?_
    exact Hk (v5 + (1 : Int32)) x4 H
def l_X8_look_19 (v0 : Nat) (v1 : Nat) (v2 : Nat) (v3 : Int32) (v4 : Int32) (K58 : Hp → Option Hp) (v5 : Int32) (h : Hp) : Option Hp := loopK FUEL (fun (k : Int32 × Hp → Option Hp) (s : Int32 × Hp) => b_X8_look_19 v0 v1 v2 v3 v4 K58 (fun v5q hq => k (v5q, hq)) s.1 s.2) (v5, h)
theorem okl_X8_look_19 {r : Hp} (v0 : Nat) (v1 : Nat) (v2 : Nat) (v3 : Int32) (v4 : Int32) (K58 : Hp → Option Hp) (v5 : Int32) (h : Hp) (HK58 : ∀   (hq : Hp), K58 hq = some r → Go M_X8_look (none, r) 58 [some (aA v0), some (aA v1), some (aA v2), some (aI v3), some (aI v4), none] [] hq) (H : l_X8_look_19 v0 v1 v2 v3 v4 K58 v5 h = some r) : Go M_X8_look (none, r) 19 [some (aA v0), some (aA v1), some (aA v2), some (aI v3), some (aI v4), some (aI v5)] [] h := by
  unfold l_X8_look_19 at H
  exact go_loop (σ := Int32 × Hp) (body := (fun (k : Int32 × Hp → Option Hp) (s : Int32 × Hp) => b_X8_look_19 v0 v1 v2 v3 v4 K58 (fun v5q hq => k (v5q, hq)) s.1 s.2)) (fun s => [some (aA v0), some (aA v1), some (aA v2), some (aI v3), some (aI v4), some (aI s.1)]) (fun s => s.2) (fun k s Hk H => okb_X8_look_19 v0 v1 v2 v3 v4 K58 (fun v5q hq => k (v5q, hq)) s.1 s.2 HK58 (fun v5q hq H => Hk (v5q, hq) H) H) FUEL (v5, h) H
def j_X8_look_58 (v0 : Nat) (v1 : Nat) (v2 : Nat) (v3 : Int32) (v4 : Int32)  (h : Hp) (k : Int32 → Hp → Option Hp) : Option Hp :=
  k (v4 + (1 : Int32)) h
set_option maxRecDepth 20000 in
theorem okj_X8_look_58 {r : Hp} (v0 : Nat) (v1 : Nat) (v2 : Nat) (v3 : Int32) (v4 : Int32)  (h : Hp) (k : Int32 → Hp → Option Hp) (Hk : ∀ (v4q : Int32) (hq : Hp), k v4q hq = some r → Go M_X8_look (none, r) 3 [some (aA v0), some (aA v1), some (aA v2), some (aI v3), some (aI v4q), none] [] hq) (H : j_X8_look_58 v0 v1 v2 v3 v4 h k = some r) : Go M_X8_look (none, r) 58 [some (aA v0), some (aA v1), some (aA v2), some (aI v3), some (aI v4), none] [] h := by
  unfold j_X8_look_58 at H
  refine go_iinc (v := (v4 + (1 : Int32))) (loc2 := [some (aA v0), some (aA v1), some (aA v2), some (aI v3), some (aI (v4 + (1 : Int32))), none]) dX8_look_58 rfl rfl (by decide) rfl ?_
  refine go_goto (tgt := 3) dX8_look_61 (by decide) ?_
  exact Hk (v4 + (1 : Int32)) h H
def b_X8_look_3 (v0 : Nat) (v1 : Nat) (v2 : Nat) (v3 : Int32) (k : Int32 → Hp → Option Hp) (v4 : Int32) (h : Hp) : Option Hp :=
  if v3 < v4 then (some h) else if (8 : Int32) ≤ v4 then (some h) else l_X8_look_19 v0 v1 v2 v3 v4 (fun hz1 => j_X8_look_58 v0 v1 v2 v3 v4 hz1 k) (0 : Int32) h
set_option maxRecDepth 20000 in
theorem okb_X8_look_3 {r : Hp} (v0 : Nat) (v1 : Nat) (v2 : Nat) (v3 : Int32) (k : Int32 → Hp → Option Hp) (v4 : Int32) (h : Hp) (Hk : ∀ (v4q : Int32) (hq : Hp), k v4q hq = some r → Go M_X8_look (none, r) 3 [some (aA v0), some (aA v1), some (aA v2), some (aI v3), some (aI v4q), none] [] hq) (H : b_X8_look_3 v0 v1 v2 v3 k v4 h = some r) : Go M_X8_look (none, r) 3 [some (aA v0), some (aA v1), some (aA v2), some (aI v3), some (aI v4), none] [] h := by
  unfold b_X8_look_3 at H
  refine go_iload dX8_look_3 rfl ?_
  refine go_iloadn dX8_look_5 rfl ?_
  refine go_icmp_gt (tgt := 64) dX8_look_6 (by decide) (fun c1 => ?_) (fun c1 => ?_)
  · replace H := (gm_ite H).1 c1
    obtain rfl := Option.some.inj H
    exact go_return dX8_look_64 rfl
  · replace H := (gm_ite H).2 c1
    refine go_iload dX8_look_9 rfl ?_
    refine go_bipush (v := (8 : Int32)) dX8_look_11 rfl ?_
    refine go_icmp_ge (tgt := 64) dX8_look_13 (by decide) (fun c2 => ?_) (fun c2 => ?_)
    · replace H := (gm_ite H).1 c2
      obtain rfl := Option.some.inj H
      exact go_return dX8_look_64 rfl
    · replace H := (gm_ite H).2 c2
      refine go_iconst (v := (0 : Int32)) dX8_look_16 rfl ?_
      refine go_istore (loc2 := [some (aA v0), some (aA v1), some (aA v2), some (aI v3), some (aI v4), some (aI (0 : Int32))]) dX8_look_17 (by decide) rfl ?_
      refine okl_X8_look_19 v0 v1 v2 v3 v4 (fun hz1 => j_X8_look_58 v0 v1 v2 v3 v4 hz1 k) (0 : Int32) h ?_ H
      · intro hz1 H
        exact okj_X8_look_58 v0 v1 v2 v3 v4 hz1 k Hk H
def l_X8_look_3 (v0 : Nat) (v1 : Nat) (v2 : Nat) (v3 : Int32) (v4 : Int32) (h : Hp) : Option Hp := loopK FUEL (fun (k : Int32 × Hp → Option Hp) (s : Int32 × Hp) => b_X8_look_3 v0 v1 v2 v3 (fun v4q hq => k (v4q, hq)) s.1 s.2) (v4, h)
theorem okl_X8_look_3 {r : Hp} (v0 : Nat) (v1 : Nat) (v2 : Nat) (v3 : Int32) (v4 : Int32) (h : Hp) (H : l_X8_look_3 v0 v1 v2 v3 v4 h = some r) : Go M_X8_look (none, r) 3 [some (aA v0), some (aA v1), some (aA v2), some (aI v3), some (aI v4), none] [] h := by
  unfold l_X8_look_3 at H
  exact go_loop (σ := Int32 × Hp) (body := (fun (k : Int32 × Hp → Option Hp) (s : Int32 × Hp) => b_X8_look_3 v0 v1 v2 v3 (fun v4q hq => k (v4q, hq)) s.1 s.2)) (fun s => [some (aA v0), some (aA v1), some (aA v2), some (aI v3), some (aI s.1), none]) (fun s => s.2) (fun k s Hk H => okb_X8_look_3 v0 v1 v2 v3 (fun v4q hq => k (v4q, hq)) s.1 s.2  (fun v4q hq H => Hk (v4q, hq) H) H) FUEL (v4, h) H
def m_X8_look (v0 : Nat) (v1 : Nat) (v2 : Nat) (v3 : Int32) (h : Hp) : Option Hp :=
  l_X8_look_3 v0 v1 v2 v3 (0 : Int32) h
set_option maxRecDepth 20000 in
theorem ok_X8_look {r : Hp} {v0 : Nat} {v1 : Nat} {v2 : Nat} {v3 : Int32} {h : Hp} (H : m_X8_look v0 v1 v2 v3 h = some r) : Ev M_X8_look [aA v0, aA v1, aA v2, aI v3] h (none, r) := by
  show Go M_X8_look (none, r) 0 [some (aA v0), some (aA v1), some (aA v2), some (aI v3), none, none] [] h
  unfold m_X8_look at H
  refine go_iconst (v := (0 : Int32)) dX8_look_0 rfl ?_
  refine go_istore (loc2 := [some (aA v0), some (aA v1), some (aA v2), some (aI v3), some (aI (0 : Int32)), none]) dX8_look_1 (by decide) rfl ?_
  exact okl_X8_look_3 v0 v1 v2 v3 (0 : Int32) h H
