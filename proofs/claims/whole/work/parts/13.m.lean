/-! X10_ini -/
def m_X10_init (v0 : Nat) (h : Hp) : Option Hp :=
  (rc h v0 10 (some ())).bind fun _ => (nw h 21 600).bind fun hh1 => (pfR hh1 v0 10 0 (hTop h)).bind fun hh2 => (pfI hh2 v0 10 1 (0 : Int32)).bind fun hh3 => (pfI hh3 v0 10 2 (0 : Int32)).bind fun hh4 => (pfI hh4 v0 10 3 (0 : Int32)).bind fun hh5 => (pfI hh5 v0 10 4 (0 : Int32)).bind fun hh6 => some hh6
set_option maxRecDepth 20000 in
theorem ok_X10_init {r : Hp} {v0 : Nat} {h : Hp} (H : m_X10_init v0 h = some r) : Ev M_X10_init [aA v0] h (none, r) := by
  show Go M_X10_init (none, r) 0 [some (aA v0)] [] h
  unfold m_X10_init at H
  refine go_aloadn dX10_init_0 rfl ?_
  obtain ⟨c1, _, _, H⟩ := gm_rc H
  refine go_objInit so_X10_init_1 dX10_init_1 c1 (by decide) (Nat.le_of_ble_eq_true rfl) ?_
  refine go_aloadn dX10_init_4 rfl ?_
  refine go_sipush (v := (600 : Int32)) dX10_init_5 rfl ?_
  refine gm_newarr (t := 21) (N := 600) (atype := .byte) rfl (by decide) tw199 dX10_init_8 (by decide) (by decide) (by decide) H (fun hh1 H => ?_)
  refine gm_putR fd_X10_9 (Or.inr ⟨rfl, rfl⟩) (Or.inr ⟨_, rfl⟩) dX10_init_10 H (fun hh2 H => ?_)
  refine go_aloadn dX10_init_13 rfl ?_
  refine go_iconst (v := (0 : Int32)) dX10_init_14 rfl ?_
  refine gm_putI fd_X10_13 (Or.inl rfl) dX10_init_15 H (fun hh3 H => ?_)
  refine go_aloadn dX10_init_18 rfl ?_
  refine go_iconst (v := (0 : Int32)) dX10_init_19 rfl ?_
  refine gm_putI fd_X10_17 (Or.inl rfl) dX10_init_20 H (fun hh4 H => ?_)
  refine go_aloadn dX10_init_23 rfl ?_
  refine go_iconst (v := (0 : Int32)) dX10_init_24 rfl ?_
  refine gm_putI fd_X10_20 (Or.inl rfl) dX10_init_25 H (fun hh5 H => ?_)
  refine go_aloadn dX10_init_28 rfl ?_
  refine go_iconst (v := (0 : Int32)) dX10_init_29 rfl ?_
  refine gm_putI fd_X10_23 (Or.inl rfl) dX10_init_30 H (fun hh6 H => ?_)
  obtain rfl := Option.some.inj H
  exact go_return dX10_init_33 rfl
/-! X0_ini -/
def m_X0_init (v0 : Nat) (h : Hp) : Option Hp :=
  (rc h v0 1 (some ())).bind fun _ => (pfI h v0 1 0 (0 : Int32)).bind fun hh1 => (pfI hh1 v0 1 1 (0 : Int32)).bind fun hh2 => (pfI hh2 v0 1 2 (0 : Int32)).bind fun hh3 => (nw hh3 20 4).bind fun hh4 => (pfR hh4 v0 1 3 (hTop hh3)).bind fun hh5 => (nw hh5 20 40).bind fun hh6 => (pfR hh6 v0 1 4 (hTop hh5)).bind fun hh7 => (nw hh7 20 40).bind fun hh8 => (pfR hh8 v0 1 5 (hTop hh7)).bind fun hh9 => (nw hh9 20 800).bind fun hh10 => (pfR hh10 v0 1 6 (hTop hh9)).bind fun hh11 => (nw hh11 20 340).bind fun hh12 => (pfR hh12 v0 1 7 (hTop hh11)).bind fun hh13 => (nw hh13 20 340).bind fun hh14 => (pfR hh14 v0 1 8 (hTop hh13)).bind fun hh15 => (nw hh15 20 340).bind fun hh16 => (pfR hh16 v0 1 9 (hTop hh15)).bind fun hh17 => (nw hh17 20 340).bind fun hh18 => (pfR hh18 v0 1 10 (hTop hh17)).bind fun hh19 => (nw hh19 22 340).bind fun hh20 => (pfR hh20 v0 1 11 (hTop hh19)).bind fun hh21 => some hh21
set_option maxRecDepth 20000 in
theorem ok_X0_init {r : Hp} {v0 : Nat} {h : Hp} (H : m_X0_init v0 h = some r) : Ev M_X0_init [aA v0] h (none, r) := by
  show Go M_X0_init (none, r) 0 [some (aA v0)] [] h
  unfold m_X0_init at H
  refine go_aloadn dX0_init_0 rfl ?_
  obtain ⟨c1, _, _, H⟩ := gm_rc H
  refine go_objInit so_X0_init_5 dX0_init_1 c1 (by decide) (Nat.le_of_ble_eq_true rfl) ?_
  refine go_aloadn dX0_init_4 rfl ?_
  refine go_iconst (v := (0 : Int32)) dX0_init_5 rfl ?_
  refine gm_putI fd_X0_11 (Or.inl rfl) dX0_init_6 H (fun hh1 H => ?_)
  refine go_aloadn dX0_init_9 rfl ?_
  refine go_iconst (v := (0 : Int32)) dX0_init_10 rfl ?_
  refine gm_putI fd_X0_15 (Or.inl rfl) dX0_init_11 H (fun hh2 H => ?_)
  refine go_aloadn dX0_init_14 rfl ?_
  refine go_iconst (v := (0 : Int32)) dX0_init_15 rfl ?_
  refine gm_putI fd_X0_18 (Or.inl rfl) dX0_init_16 H (fun hh3 H => ?_)
  refine go_aloadn dX0_init_19 rfl ?_
  refine go_iconst (v := (4 : Int32)) dX0_init_20 rfl ?_
  refine gm_newarr (t := 20) (N := 4) (atype := .int) rfl (by decide) tw259 dX0_init_21 (by decide) (by decide) (by decide) H (fun hh4 H => ?_)
  refine gm_putR fd_X0_21 (Or.inr ⟨rfl, rfl⟩) (Or.inr ⟨_, rfl⟩) dX0_init_23 H (fun hh5 H => ?_)
  refine go_aloadn dX0_init_26 rfl ?_
  refine go_bipush (v := (40 : Int32)) dX0_init_27 rfl ?_
  refine gm_newarr (t := 20) (N := 40) (atype := .int) rfl (by decide) tw259 dX0_init_29 (by decide) (by decide) (by decide) H (fun hh6 H => ?_)
  refine gm_putR fd_X0_25 (Or.inr ⟨rfl, rfl⟩) (Or.inr ⟨_, rfl⟩) dX0_init_31 H (fun hh7 H => ?_)
  refine go_aloadn dX0_init_34 rfl ?_
  refine go_bipush (v := (40 : Int32)) dX0_init_35 rfl ?_
  refine gm_newarr (t := 20) (N := 40) (atype := .int) rfl (by decide) tw259 dX0_init_37 (by decide) (by decide) (by decide) H (fun hh8 H => ?_)
  refine gm_putR fd_X0_28 (Or.inr ⟨rfl, rfl⟩) (Or.inr ⟨_, rfl⟩) dX0_init_39 H (fun hh9 H => ?_)
  refine go_aloadn dX0_init_42 rfl ?_
  refine go_sipush (v := (800 : Int32)) dX0_init_43 rfl ?_
  refine gm_newarr (t := 20) (N := 800) (atype := .int) rfl (by decide) tw259 dX0_init_46 (by decide) (by decide) (by decide) H (fun hh10 H => ?_)
  refine gm_putR fd_X0_31 (Or.inr ⟨rfl, rfl⟩) (Or.inr ⟨_, rfl⟩) dX0_init_48 H (fun hh11 H => ?_)
  refine go_aloadn dX0_init_51 rfl ?_
  refine go_sipush (v := (340 : Int32)) dX0_init_52 rfl ?_
  refine gm_newarr (t := 20) (N := 340) (atype := .int) rfl (by decide) tw259 dX0_init_55 (by decide) (by decide) (by decide) H (fun hh12 H => ?_)
  refine gm_putR fd_X0_34 (Or.inr ⟨rfl, rfl⟩) (Or.inr ⟨_, rfl⟩) dX0_init_57 H (fun hh13 H => ?_)
  refine go_aloadn dX0_init_60 rfl ?_
  refine go_sipush (v := (340 : Int32)) dX0_init_61 rfl ?_
  refine gm_newarr (t := 20) (N := 340) (atype := .int) rfl (by decide) tw259 dX0_init_64 (by decide) (by decide) (by decide) H (fun hh14 H => ?_)
  refine gm_putR fd_X0_37 (Or.inr ⟨rfl, rfl⟩) (Or.inr ⟨_, rfl⟩) dX0_init_66 H (fun hh15 H => ?_)
  refine go_aloadn dX0_init_69 rfl ?_
  refine go_sipush (v := (340 : Int32)) dX0_init_70 rfl ?_
  refine gm_newarr (t := 20) (N := 340) (atype := .int) rfl (by decide) tw259 dX0_init_73 (by decide) (by decide) (by decide) H (fun hh16 H => ?_)
  refine gm_putR fd_X0_40 (Or.inr ⟨rfl, rfl⟩) (Or.inr ⟨_, rfl⟩) dX0_init_75 H (fun hh17 H => ?_)
  refine go_aloadn dX0_init_78 rfl ?_
  refine go_sipush (v := (340 : Int32)) dX0_init_79 rfl ?_
  refine gm_newarr (t := 20) (N := 340) (atype := .int) rfl (by decide) tw259 dX0_init_82 (by decide) (by decide) (by decide) H (fun hh18 H => ?_)
  refine gm_putR fd_X0_43 (Or.inr ⟨rfl, rfl⟩) (Or.inr ⟨_, rfl⟩) dX0_init_84 H (fun hh19 H => ?_)
  refine go_aloadn dX0_init_87 rfl ?_
  refine go_sipush (v := (340 : Int32)) dX0_init_88 rfl ?_
  refine gm_newarr (t := 22) (N := 340) (atype := .long) rfl (by decide) tw260 dX0_init_91 (by decide) (by decide) (by decide) H (fun hh20 H => ?_)
  refine gm_putR fd_X0_46 (Or.inr ⟨rfl, rfl⟩) (Or.inr ⟨_, rfl⟩) dX0_init_93 H (fun hh21 H => ?_)
  obtain rfl := Option.some.inj H
  exact go_return dX0_init_96 rfl
/-! X6_ini -/
def m_X6_init (v0 : Nat) (h : Hp) : Option Hp :=
  (rc h v0 6 (some ())).bind fun _ => (pfI h v0 6 0 (0 : Int32)).bind fun hh1 => (nw hh1 20 8).bind fun hh2 => (pfR hh2 v0 6 1 (hTop hh1)).bind fun hh3 => (nw hh3 20 16).bind fun hh4 => (pfR hh4 v0 6 2 (hTop hh3)).bind fun hh5 => (nw hh5 20 8).bind fun hh6 => (pfR hh6 v0 6 3 (hTop hh5)).bind fun hh7 => (nw hh7 20 32).bind fun hh8 => (pfR hh8 v0 6 4 (hTop hh7)).bind fun hh9 => some hh9
set_option maxRecDepth 20000 in
theorem ok_X6_init {r : Hp} {v0 : Nat} {h : Hp} (H : m_X6_init v0 h = some r) : Ev M_X6_init [aA v0] h (none, r) := by
  show Go M_X6_init (none, r) 0 [some (aA v0)] [] h
  unfold m_X6_init at H
  refine go_aloadn dX6_init_0 rfl ?_
  obtain ⟨c1, _, _, H⟩ := gm_rc H
  refine go_objInit so_X6_init_3 dX6_init_1 c1 (by decide) (Nat.le_of_ble_eq_true rfl) ?_
  refine go_aloadn dX6_init_4 rfl ?_
  refine go_iconst (v := (0 : Int32)) dX6_init_5 rfl ?_
  refine gm_putI fd_X6_9 (Or.inl rfl) dX6_init_6 H (fun hh1 H => ?_)
  refine go_aloadn dX6_init_9 rfl ?_
  refine go_bipush (v := (8 : Int32)) dX6_init_10 rfl ?_
  refine gm_newarr (t := 20) (N := 8) (atype := .int) rfl (by decide) tw259 dX6_init_12 (by decide) (by decide) (by decide) H (fun hh2 H => ?_)
  refine gm_putR fd_X6_15 (Or.inr ⟨rfl, rfl⟩) (Or.inr ⟨_, rfl⟩) dX6_init_14 H (fun hh3 H => ?_)
  refine go_aloadn dX6_init_17 rfl ?_
  refine go_bipush (v := (16 : Int32)) dX6_init_18 rfl ?_
  refine gm_newarr (t := 20) (N := 16) (atype := .int) rfl (by decide) tw259 dX6_init_20 (by decide) (by decide) (by decide) H (fun hh4 H => ?_)
  refine gm_putR fd_X6_19 (Or.inr ⟨rfl, rfl⟩) (Or.inr ⟨_, rfl⟩) dX6_init_22 H (fun hh5 H => ?_)
  refine go_aloadn dX6_init_25 rfl ?_
  refine go_bipush (v := (8 : Int32)) dX6_init_26 rfl ?_
  refine gm_newarr (t := 20) (N := 8) (atype := .int) rfl (by decide) tw259 dX6_init_28 (by decide) (by decide) (by decide) H (fun hh6 H => ?_)
  refine gm_putR fd_X6_22 (Or.inr ⟨rfl, rfl⟩) (Or.inr ⟨_, rfl⟩) dX6_init_30 H (fun hh7 H => ?_)
  refine go_aloadn dX6_init_33 rfl ?_
  refine go_bipush (v := (32 : Int32)) dX6_init_34 rfl ?_
  refine gm_newarr (t := 20) (N := 32) (atype := .int) rfl (by decide) tw259 dX6_init_36 (by decide) (by decide) (by decide) H (fun hh8 H => ?_)
  refine gm_putR fd_X6_25 (Or.inr ⟨rfl, rfl⟩) (Or.inr ⟨_, rfl⟩) dX6_init_38 H (fun hh9 H => ?_)
  obtain rfl := Option.some.inj H
  exact go_return dX6_init_41 rfl
/-! X3_ini -/
def m_X3_init (v0 : Nat) (h : Hp) : Option Hp :=
  (rc h v0 4 (some ())).bind fun _ => (pfI h v0 4 0 (0 : Int32)).bind fun hh1 => (nw hh1 20 24).bind fun hh2 => (pfR hh2 v0 4 1 (hTop hh1)).bind fun hh3 => some hh3
set_option maxRecDepth 20000 in
theorem ok_X3_init {r : Hp} {v0 : Nat} {h : Hp} (H : m_X3_init v0 h = some r) : Ev M_X3_init [aA v0] h (none, r) := by
  show Go M_X3_init (none, r) 0 [some (aA v0)] [] h
  unfold m_X3_init at H
  refine go_aloadn dX3_init_0 rfl ?_
  obtain ⟨c1, _, _, H⟩ := gm_rc H
  refine go_objInit so_X3_init_3 dX3_init_1 c1 (by decide) (Nat.le_of_ble_eq_true rfl) ?_
  refine go_aloadn dX3_init_4 rfl ?_
  refine go_iconst (v := (0 : Int32)) dX3_init_5 rfl ?_
  refine gm_putI fd_X3_9 (Or.inl rfl) dX3_init_6 H (fun hh1 H => ?_)
  refine go_aloadn dX3_init_9 rfl ?_
  refine go_bipush (v := (24 : Int32)) dX3_init_10 rfl ?_
  refine gm_newarr (t := 20) (N := 24) (atype := .int) rfl (by decide) tw259 dX3_init_12 (by decide) (by decide) (by decide) H (fun hh2 H => ?_)
  refine gm_putR fd_X3_15 (Or.inr ⟨rfl, rfl⟩) (Or.inr ⟨_, rfl⟩) dX3_init_14 H (fun hh3 H => ?_)
  obtain rfl := Option.some.inj H
  exact go_return dX3_init_17 rfl
/-! X9_ini -/
def b_X9_init_58 (v0 : Nat) (k : Int32 → Hp → Option Hp) (v1 : Int32) (h : Hp) : Option Hp :=
  if (2 : Int32) ≤ v1 then (some h) else (gfR h v0 9 4).bind fun x1 => (nw h 1 12).bind fun hh1 => (rc hh1 (hTop h) 1 (m_X0_init (hTop h) hh1)).bind fun x2 => (asR x2 x1 24 v1 (hTop h) 1).bind fun hh2 => (gfR hh2 v0 9 5).bind fun x3 => (nw hh2 6 5).bind fun hh3 => (rc hh3 (hTop hh2) 6 (m_X6_init (hTop hh2) hh3)).bind fun x4 => (asR x4 x3 25 v1 (hTop hh2) 6).bind fun hh4 => (gfR hh4 v0 9 6).bind fun x5 => (nw hh4 4 2).bind fun hh5 => (rc hh5 (hTop hh4) 4 (m_X3_init (hTop hh4) hh5)).bind fun x6 => (asR x6 x5 26 v1 (hTop hh4) 4).bind fun hh6 => k (v1 + (1 : Int32)) hh6
set_option maxRecDepth 20000 in
theorem okb_X9_init_58 {r : Hp} (v0 : Nat) (k : Int32 → Hp → Option Hp) (v1 : Int32) (h : Hp) (Hk : ∀ (v1q : Int32) (hq : Hp), k v1q hq = some r → Go M_X9_init (none, r) 58 [some (aA v0), some (aI v1q)] [] hq) (H : b_X9_init_58 v0 k v1 h = some r) : Go M_X9_init (none, r) 58 [some (aA v0), some (aI v1)] [] h := by
  unfold b_X9_init_58 at H
  refine go_iloadn dX9_init_58 rfl ?_
  refine go_iconst (v := (2 : Int32)) dX9_init_59 rfl ?_
  refine go_icmp_ge (tgt := 108) dX9_init_60 (by decide) (fun c1 => ?_) (fun c1 => ?_)
  · replace H := (gm_ite H).1 c1
    obtain rfl := Option.some.inj H
    exact go_return dX9_init_108 rfl
  · replace H := (gm_ite H).2 c1
    refine go_aloadn dX9_init_63 rfl ?_
    refine gm_getR fd_X9_31 dX9_init_64 H (fun x1 H => ?_)
    refine go_iloadn dX9_init_67 rfl ?_
    refine gm_new cl_X0 dv_X0 tw200 dX9_init_68 H (fun hh1 H => ?_)
    refine go_dupA dX9_init_71 ?_
    obtain ⟨c2, x2, ex2, H⟩ := gm_rc H
    refine go_callI (vs := []) (stk := [aA (hTop h), aI v1, aA x1]) (o1 := (none, x2)) mk_X0_init si_X9_init_47 dX9_init_72 c2 (by decide) rfl rfl (Nat.le_of_ble_eq_true rfl) (Nat.le_of_ble_eq_true rfl) (ok_X0_init ex2) (show Go M_X9_init (none, r) 75 [some (aA v0), some (aI v1)] [aA (hTop h), aI v1, aA x1] x2 from ?_)
    refine gm_aast (by decide) cl_X0 rfl dX9_init_75 H (fun hh2 H => ?_)
    refine go_aloadn dX9_init_76 rfl ?_
    refine gm_getR fd_X9_37 dX9_init_77 H (fun x3 H => ?_)
    refine go_iloadn dX9_init_80 rfl ?_
    refine gm_new cl_X6 dv_X6 tw202 dX9_init_81 H (fun hh3 H => ?_)
    refine go_dupA dX9_init_84 ?_
    obtain ⟨c3, x4, ex4, H⟩ := gm_rc H
    refine go_callI (vs := []) (stk := [aA (hTop hh2), aI v1, aA x3]) (o1 := (none, x4)) mk_X6_init si_X9_init_48 dX9_init_85 c3 (by decide) rfl rfl (Nat.le_of_ble_eq_true rfl) (Nat.le_of_ble_eq_true rfl) (ok_X6_init ex4) (show Go M_X9_init (none, r) 88 [some (aA v0), some (aI v1)] [aA (hTop hh2), aI v1, aA x3] x4 from ?_)
    refine gm_aast (by decide) cl_X6 rfl dX9_init_88 H (fun hh4 H => ?_)
    refine go_aloadn dX9_init_89 rfl ?_
    refine gm_getR fd_X9_43 dX9_init_90 H (fun x5 H => ?_)
    refine go_iloadn dX9_init_93 rfl ?_
    refine gm_new cl_X3 dv_X3 tw204 dX9_init_94 H (fun hh5 H => ?_)
    refine go_dupA dX9_init_97 ?_
    obtain ⟨c4, x6, ex6, H⟩ := gm_rc H
    refine go_callI (vs := []) (stk := [aA (hTop hh4), aI v1, aA x5]) (o1 := (none, x6)) mk_X3_init si_X9_init_49 dX9_init_98 c4 (by decide) rfl rfl (Nat.le_of_ble_eq_true rfl) (Nat.le_of_ble_eq_true rfl) (ok_X3_init ex6) (show Go M_X9_init (none, r) 101 [some (aA v0), some (aI v1)] [aA (hTop hh4), aI v1, aA x5] x6 from ?_)
    refine gm_aast (by decide) cl_X3 rfl dX9_init_101 H (fun hh6 H => ?_)
    refine go_iinc (v := (v1 + (1 : Int32))) (loc2 := [some (aA v0), some (aI (v1 + (1 : Int32)))]) dX9_init_102 rfl rfl (by decide) rfl ?_
    refine go_goto (tgt := 58) dX9_init_105 (by decide) ?_
    exact Hk (v1 + (1 : Int32)) hh6 H
def l_X9_init_58 (v0 : Nat) (v1 : Int32) (h : Hp) : Option Hp := loopK FUEL (fun (k : Int32 × Hp → Option Hp) (s : Int32 × Hp) => b_X9_init_58 v0 (fun v1q hq => k (v1q, hq)) s.1 s.2) (v1, h)
theorem okl_X9_init_58 {r : Hp} (v0 : Nat) (v1 : Int32) (h : Hp) (H : l_X9_init_58 v0 v1 h = some r) : Go M_X9_init (none, r) 58 [some (aA v0), some (aI v1)] [] h := by
  unfold l_X9_init_58 at H
  exact go_loop (σ := Int32 × Hp) (body := (fun (k : Int32 × Hp → Option Hp) (s : Int32 × Hp) => b_X9_init_58 v0 (fun v1q hq => k (v1q, hq)) s.1 s.2)) (fun s => [some (aA v0), some (aI s.1)]) (fun s => s.2) (fun k s Hk H => okb_X9_init_58 v0 (fun v1q hq => k (v1q, hq)) s.1 s.2  (fun v1q hq H => Hk (v1q, hq) H) H) FUEL (v1, h) H
def m_X9_init (v0 : Nat) (h : Hp) : Option Hp :=
  (rc h v0 9 (some ())).bind fun _ => (nw h 10 5).bind fun hh1 => (rc hh1 (hTop h) 10 (m_X10_init (hTop h) hh1)).bind fun x1 => (pfR x1 v0 9 0 (hTop h)).bind fun hh2 => (pfI hh2 v0 9 1 (0 : Int32)).bind fun hh3 => (pfI hh3 v0 9 2 (-1 : Int32)).bind fun hh4 => (nw hh4 20 3).bind fun hh5 => (pfR hh5 v0 9 3 (hTop hh4)).bind fun hh6 => (nw hh6 24 2).bind fun hh7 => (pfR hh7 v0 9 4 (hTop hh6)).bind fun hh8 => (nw hh8 25 2).bind fun hh9 => (pfR hh9 v0 9 5 (hTop hh8)).bind fun hh10 => (nw hh10 26 2).bind fun hh11 => (pfR hh11 v0 9 6 (hTop hh10)).bind fun hh12 => l_X9_init_58 v0 (0 : Int32) hh12
set_option maxRecDepth 20000 in
theorem ok_X9_init {r : Hp} {v0 : Nat} {h : Hp} (H : m_X9_init v0 h = some r) : Ev M_X9_init [aA v0] h (none, r) := by
  show Go M_X9_init (none, r) 0 [some (aA v0), none] [] h
  unfold m_X9_init at H
  refine go_aloadn dX9_init_0 rfl ?_
  obtain ⟨c1, _, _, H⟩ := gm_rc H
  refine go_objInit so_X9_init_3 dX9_init_1 c1 (by decide) (Nat.le_of_ble_eq_true rfl) ?_
  refine go_aloadn dX9_init_4 rfl ?_
  refine gm_new cl_X10 dv_X10 tw173 dX9_init_5 H (fun hh1 H => ?_)
  refine go_dupA dX9_init_8 ?_
  obtain ⟨c2, x1, ex1, H⟩ := gm_rc H
  refine go_callI (vs := []) (stk := [aA (hTop h), aA v0]) (o1 := (none, x1)) mk_X10_init si_X9_init_11 dX9_init_9 c2 (by decide) rfl rfl (Nat.le_of_ble_eq_true rfl) (Nat.le_of_ble_eq_true rfl) (ok_X10_init ex1) (show Go M_X9_init (none, r) 12 [some (aA v0), none] [aA (hTop h), aA v0] x1 from ?_)
  refine gm_putR fd_X9_12 (Or.inr ⟨rfl, rfl⟩) (Or.inl ⟨_, rfl⟩) dX9_init_12 H (fun hh2 H => ?_)
  refine go_aloadn dX9_init_15 rfl ?_
  refine go_iconst (v := (0 : Int32)) dX9_init_16 rfl ?_
  refine gm_putI fd_X9_18 (Or.inl rfl) dX9_init_17 H (fun hh3 H => ?_)
  refine go_aloadn dX9_init_20 rfl ?_
  refine go_iconst (v := (-1 : Int32)) dX9_init_21 rfl ?_
  refine gm_putI fd_X9_22 (Or.inl rfl) dX9_init_22 H (fun hh4 H => ?_)
  refine go_aloadn dX9_init_25 rfl ?_
  refine go_iconst (v := (3 : Int32)) dX9_init_26 rfl ?_
  refine gm_newarr (t := 20) (N := 3) (atype := .int) rfl (by decide) tw259 dX9_init_27 (by decide) (by decide) (by decide) H (fun hh5 H => ?_)
  refine gm_putR fd_X9_25 (Or.inr ⟨rfl, rfl⟩) (Or.inr ⟨_, rfl⟩) dX9_init_29 H (fun hh6 H => ?_)
  refine go_aloadn dX9_init_32 rfl ?_
  refine go_iconst (v := (2 : Int32)) dX9_init_33 rfl ?_
  refine gm_anew (t := 24) (N := 2) (by decide) tw200 dX9_init_34 (by decide) (by decide) (by decide) H (fun hh7 H => ?_)
  refine gm_putR fd_X9_31 (Or.inr ⟨rfl, rfl⟩) (Or.inr ⟨_, rfl⟩) dX9_init_37 H (fun hh8 H => ?_)
  refine go_aloadn dX9_init_40 rfl ?_
  refine go_iconst (v := (2 : Int32)) dX9_init_41 rfl ?_
  refine gm_anew (t := 25) (N := 2) (by decide) tw202 dX9_init_42 (by decide) (by decide) (by decide) H (fun hh9 H => ?_)
  refine gm_putR fd_X9_37 (Or.inr ⟨rfl, rfl⟩) (Or.inr ⟨_, rfl⟩) dX9_init_45 H (fun hh10 H => ?_)
  refine go_aloadn dX9_init_48 rfl ?_
  refine go_iconst (v := (2 : Int32)) dX9_init_49 rfl ?_
  refine gm_anew (t := 26) (N := 2) (by decide) tw204 dX9_init_50 (by decide) (by decide) (by decide) H (fun hh11 H => ?_)
  refine gm_putR fd_X9_43 (Or.inr ⟨rfl, rfl⟩) (Or.inr ⟨_, rfl⟩) dX9_init_53 H (fun hh12 H => ?_)
  refine go_iconst (v := (0 : Int32)) dX9_init_56 rfl ?_
  refine go_istoren (loc2 := [some (aA v0), some (aI (0 : Int32))]) dX9_init_57 rfl (by decide) rfl ?_
  exact okl_X9_init_58 v0 (0 : Int32) hh12 H
/-! X4_ini -/
def m_X4_init (v0 : Nat) (h : Hp) : Option Hp :=
  (rc h v0 5 (some ())).bind fun _ => (pfI h v0 5 0 (-1 : Int32)).bind fun hh1 => (pfI hh1 v0 5 1 (0 : Int32)).bind fun hh2 => (pfI hh2 v0 5 2 (0 : Int32)).bind fun hh3 => (pfI hh3 v0 5 3 (0 : Int32)).bind fun hh4 => (pfI hh4 v0 5 4 (-1 : Int32)).bind fun hh5 => (nw hh5 20 3).bind fun hh6 => (pfR hh6 v0 5 5 (hTop hh5)).bind fun hh7 => (nw hh7 20 3).bind fun hh8 => (pfR hh8 v0 5 6 (hTop hh7)).bind fun hh9 => (nw hh9 20 21).bind fun hh10 => (pfR hh10 v0 5 7 (hTop hh9)).bind fun hh11 => (nw hh11 20 21).bind fun hh12 => (pfR hh12 v0 5 8 (hTop hh11)).bind fun hh13 => some hh13
set_option maxRecDepth 20000 in
theorem ok_X4_init {r : Hp} {v0 : Nat} {h : Hp} (H : m_X4_init v0 h = some r) : Ev M_X4_init [aA v0] h (none, r) := by
  show Go M_X4_init (none, r) 0 [some (aA v0)] [] h
  unfold m_X4_init at H
  refine go_aloadn dX4_init_0 rfl ?_
  obtain ⟨c1, _, _, H⟩ := gm_rc H
  refine go_objInit so_X4_init_5 dX4_init_1 c1 (by decide) (Nat.le_of_ble_eq_true rfl) ?_
  refine go_aloadn dX4_init_4 rfl ?_
  refine go_iconst (v := (-1 : Int32)) dX4_init_5 rfl ?_
  refine gm_putI fd_X4_11 (Or.inl rfl) dX4_init_6 H (fun hh1 H => ?_)
  refine go_aloadn dX4_init_9 rfl ?_
  refine go_iconst (v := (0 : Int32)) dX4_init_10 rfl ?_
  refine gm_putI fd_X4_17 (Or.inl rfl) dX4_init_11 H (fun hh2 H => ?_)
  refine go_aloadn dX4_init_14 rfl ?_
  refine go_iconst (v := (0 : Int32)) dX4_init_15 rfl ?_
  refine gm_putI fd_X4_20 (Or.inl rfl) dX4_init_16 H (fun hh3 H => ?_)
  refine go_aloadn dX4_init_19 rfl ?_
  refine go_iconst (v := (0 : Int32)) dX4_init_20 rfl ?_
  refine gm_putI fd_X4_23 (Or.inl rfl) dX4_init_21 H (fun hh4 H => ?_)
  refine go_aloadn dX4_init_24 rfl ?_
  refine go_iconst (v := (-1 : Int32)) dX4_init_25 rfl ?_
  refine gm_putI fd_X4_26 (Or.inl rfl) dX4_init_26 H (fun hh5 H => ?_)
  refine go_aloadn dX4_init_29 rfl ?_
  refine go_iconst (v := (3 : Int32)) dX4_init_30 rfl ?_
  refine gm_newarr (t := 20) (N := 3) (atype := .int) rfl (by decide) tw259 dX4_init_31 (by decide) (by decide) (by decide) H (fun hh6 H => ?_)
  refine gm_putR fd_X4_29 (Or.inr ⟨rfl, rfl⟩) (Or.inr ⟨_, rfl⟩) dX4_init_33 H (fun hh7 H => ?_)
  refine go_aloadn dX4_init_36 rfl ?_
  refine go_iconst (v := (3 : Int32)) dX4_init_37 rfl ?_
  refine gm_newarr (t := 20) (N := 3) (atype := .int) rfl (by decide) tw259 dX4_init_38 (by decide) (by decide) (by decide) H (fun hh8 H => ?_)
  refine gm_putR fd_X4_33 (Or.inr ⟨rfl, rfl⟩) (Or.inr ⟨_, rfl⟩) dX4_init_40 H (fun hh9 H => ?_)
  refine go_aloadn dX4_init_43 rfl ?_
  refine go_bipush (v := (21 : Int32)) dX4_init_44 rfl ?_
  refine gm_newarr (t := 20) (N := 21) (atype := .int) rfl (by decide) tw259 dX4_init_46 (by decide) (by decide) (by decide) H (fun hh10 H => ?_)
  refine gm_putR fd_X4_36 (Or.inr ⟨rfl, rfl⟩) (Or.inr ⟨_, rfl⟩) dX4_init_48 H (fun hh11 H => ?_)
  refine go_aloadn dX4_init_51 rfl ?_
  refine go_bipush (v := (21 : Int32)) dX4_init_52 rfl ?_
  refine gm_newarr (t := 20) (N := 21) (atype := .int) rfl (by decide) tw259 dX4_init_54 (by decide) (by decide) (by decide) H (fun hh12 H => ?_)
  refine gm_putR fd_X4_39 (Or.inr ⟨rfl, rfl⟩) (Or.inr ⟨_, rfl⟩) dX4_init_56 H (fun hh13 H => ?_)
  obtain rfl := Option.some.inj H
  exact go_return dX4_init_59 rfl
/-! X7_ini -/
def m_X7_init (v0 : Nat) (h : Hp) : Option Hp :=
  (rc h v0 7 (some ())).bind fun _ => (nw h 5 9).bind fun hh1 => (rc hh1 (hTop h) 5 (m_X4_init (hTop h) hh1)).bind fun x1 => (pfR x1 v0 7 0 (hTop h)).bind fun hh2 => (nw hh2 1 12).bind fun hh3 => (rc hh3 (hTop hh2) 1 (m_X0_init (hTop hh2) hh3)).bind fun x2 => (pfR x2 v0 7 1 (hTop hh2)).bind fun hh4 => (nw hh4 6 5).bind fun hh5 => (rc hh5 (hTop hh4) 6 (m_X6_init (hTop hh4) hh5)).bind fun x3 => (pfR x3 v0 7 2 (hTop hh4)).bind fun hh6 => (nw hh6 4 2).bind fun hh7 => (rc hh7 (hTop hh6) 4 (m_X3_init (hTop hh6) hh7)).bind fun x4 => (pfR x4 v0 7 3 (hTop hh6)).bind fun hh8 => (pfI hh8 v0 7 4 (0 : Int32)).bind fun hh9 => (pfI hh9 v0 7 5 (-1 : Int32)).bind fun hh10 => some hh10
set_option maxRecDepth 20000 in
theorem ok_X7_init {r : Hp} {v0 : Nat} {h : Hp} (H : m_X7_init v0 h = some r) : Ev M_X7_init [aA v0] h (none, r) := by
  show Go M_X7_init (none, r) 0 [some (aA v0)] [] h
  unfold m_X7_init at H
  refine go_aloadn dX7_init_0 rfl ?_
  obtain ⟨c1, _, _, H⟩ := gm_rc H
  refine go_objInit so_X7_init_3 dX7_init_1 c1 (by decide) (Nat.le_of_ble_eq_true rfl) ?_
  refine go_aloadn dX7_init_4 rfl ?_
  refine gm_new cl_X4 dv_X4 tw331 dX7_init_5 H (fun hh1 H => ?_)
  refine go_dupA dX7_init_8 ?_
  obtain ⟨c2, x1, ex1, H⟩ := gm_rc H
  refine go_callI (vs := []) (stk := [aA (hTop h), aA v0]) (o1 := (none, x1)) mk_X4_init si_X7_init_11 dX7_init_9 c2 (by decide) rfl rfl (Nat.le_of_ble_eq_true rfl) (Nat.le_of_ble_eq_true rfl) (ok_X4_init ex1) (show Go M_X7_init (none, r) 12 [some (aA v0)] [aA (hTop h), aA v0] x1 from ?_)
  refine gm_putR fd_X7_12 (Or.inr ⟨rfl, rfl⟩) (Or.inl ⟨_, rfl⟩) dX7_init_12 H (fun hh2 H => ?_)
  refine go_aloadn dX7_init_15 rfl ?_
  refine gm_new cl_X0 dv_X0 tw378 dX7_init_16 H (fun hh3 H => ?_)
  refine go_dupA dX7_init_19 ?_
  obtain ⟨c3, x2, ex2, H⟩ := gm_rc H
  refine go_callI (vs := []) (stk := [aA (hTop hh2), aA v0]) (o1 := (none, x2)) mk_X0_init si_X7_init_20 dX7_init_20 c3 (by decide) rfl rfl (Nat.le_of_ble_eq_true rfl) (Nat.le_of_ble_eq_true rfl) (ok_X0_init ex2) (show Go M_X7_init (none, r) 23 [some (aA v0)] [aA (hTop hh2), aA v0] x2 from ?_)
  refine gm_putR fd_X7_21 (Or.inr ⟨rfl, rfl⟩) (Or.inl ⟨_, rfl⟩) dX7_init_23 H (fun hh4 H => ?_)
  refine go_aloadn dX7_init_26 rfl ?_
  refine gm_new cl_X6 dv_X6 tw380 dX7_init_27 H (fun hh5 H => ?_)
  refine go_dupA dX7_init_30 ?_
  obtain ⟨c4, x3, ex3, H⟩ := gm_rc H
  refine go_callI (vs := []) (stk := [aA (hTop hh4), aA v0]) (o1 := (none, x3)) mk_X6_init si_X7_init_27 dX7_init_31 c4 (by decide) rfl rfl (Nat.le_of_ble_eq_true rfl) (Nat.le_of_ble_eq_true rfl) (ok_X6_init ex3) (show Go M_X7_init (none, r) 34 [some (aA v0)] [aA (hTop hh4), aA v0] x3 from ?_)
  refine gm_putR fd_X7_28 (Or.inr ⟨rfl, rfl⟩) (Or.inl ⟨_, rfl⟩) dX7_init_34 H (fun hh6 H => ?_)
  refine go_aloadn dX7_init_37 rfl ?_
  refine gm_new cl_X3 dv_X3 tw382 dX7_init_38 H (fun hh7 H => ?_)
  refine go_dupA dX7_init_41 ?_
  obtain ⟨c5, x4, ex4, H⟩ := gm_rc H
  refine go_callI (vs := []) (stk := [aA (hTop hh6), aA v0]) (o1 := (none, x4)) mk_X3_init si_X7_init_34 dX7_init_42 c5 (by decide) rfl rfl (Nat.le_of_ble_eq_true rfl) (Nat.le_of_ble_eq_true rfl) (ok_X3_init ex4) (show Go M_X7_init (none, r) 45 [some (aA v0)] [aA (hTop hh6), aA v0] x4 from ?_)
  refine gm_putR fd_X7_35 (Or.inr ⟨rfl, rfl⟩) (Or.inl ⟨_, rfl⟩) dX7_init_45 H (fun hh8 H => ?_)
  refine go_aloadn dX7_init_48 rfl ?_
  refine go_iconst (v := (0 : Int32)) dX7_init_49 rfl ?_
  refine gm_putI fd_X7_39 (Or.inl rfl) dX7_init_50 H (fun hh9 H => ?_)
  refine go_aloadn dX7_init_53 rfl ?_
  refine go_iconst (v := (-1 : Int32)) dX7_init_54 rfl ?_
  refine gm_putI fd_X7_43 (Or.inl rfl) dX7_init_55 H (fun hh10 H => ?_)
  obtain rfl := Option.some.inj H
  exact go_return dX7_init_58 rfl
/-! X2_ini -/
def m_X2_init (v0 : Nat) (h : Hp) : Option Hp :=
  (rc h v0 3 (some ())).bind fun _ => (nw h 20 21).bind fun hh1 => (pfR hh1 v0 3 0 (hTop h)).bind fun hh2 => some hh2
set_option maxRecDepth 20000 in
theorem ok_X2_init {r : Hp} {v0 : Nat} {h : Hp} (H : m_X2_init v0 h = some r) : Ev M_X2_init [aA v0] h (none, r) := by
  show Go M_X2_init (none, r) 0 [some (aA v0)] [] h
  unfold m_X2_init at H
  refine go_aloadn dX2_init_0 rfl ?_
  obtain ⟨c1, _, _, H⟩ := gm_rc H
  refine go_objInit so_X2_init_3 dX2_init_1 c1 (by decide) (Nat.le_of_ble_eq_true rfl) ?_
  refine go_aloadn dX2_init_4 rfl ?_
  refine go_bipush (v := (21 : Int32)) dX2_init_5 rfl ?_
  refine gm_newarr (t := 20) (N := 21) (atype := .int) rfl (by decide) tw259 dX2_init_7 (by decide) (by decide) (by decide) H (fun hh1 H => ?_)
  refine gm_putR fd_X2_11 (Or.inr ⟨rfl, rfl⟩) (Or.inr ⟨_, rfl⟩) dX2_init_9 H (fun hh2 H => ?_)
  obtain rfl := Option.some.inj H
  exact go_return dX2_init_12 rfl
/-! X8_ini -/
def m_X8_init (v0 : Nat) (h : Hp) : Option Hp :=
  (rc h v0 8 (some ())).bind fun _ => (nw h 20 32).bind fun hh1 => (pfR hh1 v0 8 0 (hTop h)).bind fun hh2 => some hh2
set_option maxRecDepth 20000 in
theorem ok_X8_init {r : Hp} {v0 : Nat} {h : Hp} (H : m_X8_init v0 h = some r) : Ev M_X8_init [aA v0] h (none, r) := by
  show Go M_X8_init (none, r) 0 [some (aA v0)] [] h
  unfold m_X8_init at H
  refine go_aloadn dX8_init_0 rfl ?_
  obtain ⟨c1, _, _, H⟩ := gm_rc H
  refine go_objInit so_X8_init_3 dX8_init_1 c1 (by decide) (Nat.le_of_ble_eq_true rfl) ?_
  refine go_aloadn dX8_init_4 rfl ?_
  refine go_bipush (v := (32 : Int32)) dX8_init_5 rfl ?_
  refine gm_newarr (t := 20) (N := 32) (atype := .int) rfl (by decide) tw259 dX8_init_7 (by decide) (by decide) (by decide) H (fun hh1 H => ?_)
  refine gm_putR fd_X8_13 (Or.inr ⟨rfl, rfl⟩) (Or.inr ⟨_, rfl⟩) dX8_init_9 H (fun hh2 H => ?_)
  obtain rfl := Option.some.inj H
  exact go_return dX8_init_12 rfl
/-! X1_ini -/
def m_X1_init (v0 : Nat) (h : Hp) : Option Hp :=
  (rc h v0 2 (some ())).bind fun _ => (nw h 1 12).bind fun hh1 => (rc hh1 (hTop h) 1 (m_X0_init (hTop h) hh1)).bind fun x1 => (pfR x1 v0 2 0 (hTop h)).bind fun hh2 => (nw hh2 20 1).bind fun hh3 => (pfR hh3 v0 2 1 (hTop hh2)).bind fun hh4 => (pfI hh4 v0 2 2 (0 : Int32)).bind fun hh5 => some hh5
set_option maxRecDepth 20000 in
theorem ok_X1_init {r : Hp} {v0 : Nat} {h : Hp} (H : m_X1_init v0 h = some r) : Ev M_X1_init [aA v0] h (none, r) := by
  show Go M_X1_init (none, r) 0 [some (aA v0)] [] h
  unfold m_X1_init at H
  refine go_aloadn dX1_init_0 rfl ?_
  obtain ⟨c1, _, _, H⟩ := gm_rc H
  refine go_objInit so_X1_init_3 dX1_init_1 c1 (by decide) (Nat.le_of_ble_eq_true rfl) ?_
  refine go_aloadn dX1_init_4 rfl ?_
  refine gm_new cl_X0 dv_X0 tw434 dX1_init_5 H (fun hh1 H => ?_)
  refine go_dupA dX1_init_8 ?_
  obtain ⟨c2, x1, ex1, H⟩ := gm_rc H
  refine go_callI (vs := []) (stk := [aA (hTop h), aA v0]) (o1 := (none, x1)) mk_X0_init si_X1_init_11 dX1_init_9 c2 (by decide) rfl rfl (Nat.le_of_ble_eq_true rfl) (Nat.le_of_ble_eq_true rfl) (ok_X0_init ex1) (show Go M_X1_init (none, r) 12 [some (aA v0)] [aA (hTop h), aA v0] x1 from ?_)
  refine gm_putR fd_X1_12 (Or.inr ⟨rfl, rfl⟩) (Or.inl ⟨_, rfl⟩) dX1_init_12 H (fun hh2 H => ?_)
  refine go_aloadn dX1_init_15 rfl ?_
  refine go_iconst (v := (1 : Int32)) dX1_init_16 rfl ?_
  refine gm_newarr (t := 20) (N := 1) (atype := .int) rfl (by decide) tw259 dX1_init_17 (by decide) (by decide) (by decide) H (fun hh3 H => ?_)
  refine gm_putR fd_X1_18 (Or.inr ⟨rfl, rfl⟩) (Or.inr ⟨_, rfl⟩) dX1_init_19 H (fun hh4 H => ?_)
  refine go_aloadn dX1_init_22 rfl ?_
  refine go_iconst (v := (0 : Int32)) dX1_init_23 rfl ?_
  refine gm_putI fd_X1_22 (Or.inl rfl) dX1_init_24 H (fun hh5 H => ?_)
  obtain rfl := Option.some.inj H
  exact go_return dX1_init_27 rfl
/-! X11_ini -/
def m_X11_init (v0 : Nat) (h : Hp) : Option Hp :=
  (rc h v0 11 (some ())).bind fun _ => (nw h 9 7).bind fun hh1 => (rc hh1 (hTop h) 9 (m_X9_init (hTop h) hh1)).bind fun x1 => (pfR x1 v0 11 0 (hTop h)).bind fun hh2 => (nw hh2 27 3).bind fun hh3 => (pfR hh3 v0 11 1 (hTop hh2)).bind fun hh4 => (nw hh4 7 6).bind fun hh5 => (rc hh5 (hTop hh4) 7 (m_X7_init (hTop hh4) hh5)).bind fun x2 => (pfR x2 v0 11 2 (hTop hh4)).bind fun hh6 => (nw hh6 3 1).bind fun hh7 => (rc hh7 (hTop hh6) 3 (m_X2_init (hTop hh6) hh7)).bind fun x3 => (pfR x3 v0 11 3 (hTop hh6)).bind fun hh8 => (nw hh8 8 1).bind fun hh9 => (rc hh9 (hTop hh8) 8 (m_X8_init (hTop hh8) hh9)).bind fun x4 => (pfR x4 v0 11 4 (hTop hh8)).bind fun hh10 => (nw hh10 2 3).bind fun hh11 => (rc hh11 (hTop hh10) 2 (m_X1_init (hTop hh10) hh11)).bind fun x5 => (pfR x5 v0 11 5 (hTop hh10)).bind fun hh12 => some hh12
set_option maxRecDepth 20000 in
theorem ok_X11_init {r : Hp} {v0 : Nat} {h : Hp} (H : m_X11_init v0 h = some r) : Ev M_X11_init [aA v0] h (none, r) := by
  show Go M_X11_init (none, r) 0 [some (aA v0)] [] h
  unfold m_X11_init at H
  refine go_aloadn dX11_init_0 rfl ?_
  obtain ⟨c1, _, _, H⟩ := gm_rc H
  refine go_objInit so_X11_init_1 dX11_init_1 c1 (by decide) (Nat.le_of_ble_eq_true rfl) ?_
  refine go_aloadn dX11_init_4 rfl ?_
  refine gm_new cl_X9 dv_X9 tw167 dX11_init_5 H (fun hh1 H => ?_)
  refine go_dupA dX11_init_8 ?_
  obtain ⟨c2, x1, ex1, H⟩ := gm_rc H
  refine go_callI (vs := []) (stk := [aA (hTop h), aA v0]) (o1 := (none, x1)) mk_X9_init si_X11_init_9 dX11_init_9 c2 (by decide) rfl rfl (Nat.le_of_ble_eq_true rfl) (Nat.le_of_ble_eq_true rfl) (ok_X9_init ex1) (show Go M_X11_init (none, r) 12 [some (aA v0)] [aA (hTop h), aA v0] x1 from ?_)
  refine gm_putR fd_X11_10 (Or.inr ⟨rfl, rfl⟩) (Or.inl ⟨_, rfl⟩) dX11_init_12 H (fun hh2 H => ?_)
  refine go_aloadn dX11_init_15 rfl ?_
  refine go_iconst (v := (3 : Int32)) dX11_init_16 rfl ?_
  refine gm_anew (t := 27) (N := 3) (by decide) tw167 dX11_init_17 (by decide) (by decide) (by decide) H (fun hh3 H => ?_)
  refine gm_putR fd_X11_16 (Or.inr ⟨rfl, rfl⟩) (Or.inr ⟨_, rfl⟩) dX11_init_20 H (fun hh4 H => ?_)
  refine go_aloadn dX11_init_23 rfl ?_
  refine gm_new cl_X7 dv_X7 tw325 dX11_init_24 H (fun hh5 H => ?_)
  refine go_dupA dX11_init_27 ?_
  obtain ⟨c3, x2, ex2, H⟩ := gm_rc H
  refine go_callI (vs := []) (stk := [aA (hTop hh4), aA v0]) (o1 := (none, x2)) mk_X7_init si_X11_init_22 dX11_init_28 c3 (by decide) rfl rfl (Nat.le_of_ble_eq_true rfl) (Nat.le_of_ble_eq_true rfl) (ok_X7_init ex2) (show Go M_X11_init (none, r) 31 [some (aA v0)] [aA (hTop hh4), aA v0] x2 from ?_)
  refine gm_putR fd_X11_23 (Or.inr ⟨rfl, rfl⟩) (Or.inl ⟨_, rfl⟩) dX11_init_31 H (fun hh6 H => ?_)
  refine go_aloadn dX11_init_34 rfl ?_
  refine gm_new cl_X2 dv_X2 tw408 dX11_init_35 H (fun hh7 H => ?_)
  refine go_dupA dX11_init_38 ?_
  obtain ⟨c4, x3, ex3, H⟩ := gm_rc H
  refine go_callI (vs := []) (stk := [aA (hTop hh6), aA v0]) (o1 := (none, x3)) mk_X2_init si_X11_init_29 dX11_init_39 c4 (by decide) rfl rfl (Nat.le_of_ble_eq_true rfl) (Nat.le_of_ble_eq_true rfl) (ok_X2_init ex3) (show Go M_X11_init (none, r) 42 [some (aA v0)] [aA (hTop hh6), aA v0] x3 from ?_)
  refine gm_putR fd_X11_30 (Or.inr ⟨rfl, rfl⟩) (Or.inl ⟨_, rfl⟩) dX11_init_42 H (fun hh8 H => ?_)
  refine go_aloadn dX11_init_45 rfl ?_
  refine gm_new cl_X8 dv_X8 tw418 dX11_init_46 H (fun hh9 H => ?_)
  refine go_dupA dX11_init_49 ?_
  obtain ⟨c5, x4, ex4, H⟩ := gm_rc H
  refine go_callI (vs := []) (stk := [aA (hTop hh8), aA v0]) (o1 := (none, x4)) mk_X8_init si_X11_init_36 dX11_init_50 c5 (by decide) rfl rfl (Nat.le_of_ble_eq_true rfl) (Nat.le_of_ble_eq_true rfl) (ok_X8_init ex4) (show Go M_X11_init (none, r) 53 [some (aA v0)] [aA (hTop hh8), aA v0] x4 from ?_)
  refine gm_putR fd_X11_37 (Or.inr ⟨rfl, rfl⟩) (Or.inl ⟨_, rfl⟩) dX11_init_53 H (fun hh10 H => ?_)
  refine go_aloadn dX11_init_56 rfl ?_
  refine gm_new cl_X1 dv_X1 tw428 dX11_init_57 H (fun hh11 H => ?_)
  refine go_dupA dX11_init_60 ?_
  obtain ⟨c6, x5, ex5, H⟩ := gm_rc H
  refine go_callI (vs := []) (stk := [aA (hTop hh10), aA v0]) (o1 := (none, x5)) mk_X1_init si_X11_init_43 dX11_init_61 c6 (by decide) rfl rfl (Nat.le_of_ble_eq_true rfl) (Nat.le_of_ble_eq_true rfl) (ok_X1_init ex5) (show Go M_X11_init (none, r) 64 [some (aA v0)] [aA (hTop hh10), aA v0] x5 from ?_)
  refine gm_putR fd_X11_44 (Or.inr ⟨rfl, rfl⟩) (Or.inl ⟨_, rfl⟩) dX11_init_64 H (fun hh12 H => ?_)
  obtain rfl := Option.some.inj H
  exact go_return dX11_init_67 rfl
/-! X12_ini -/
def m_X12_init (v0 : Nat) (h : Hp) : Option Hp :=
  (rc h v0 12 (some ())).bind fun _ => (nw h 21 2400).bind fun hh1 => (pfR hh1 v0 12 1 (hTop h)).bind fun hh2 => (nw hh2 20 4).bind fun hh3 => (pfR hh3 v0 12 2 (hTop hh2)).bind fun hh4 => (nw hh4 20 4).bind fun hh5 => (pfR hh5 v0 12 3 (hTop hh4)).bind fun hh6 => (nw hh6 20 4).bind fun hh7 => (pfR hh7 v0 12 4 (hTop hh6)).bind fun hh8 => (nw hh8 20 12).bind fun hh9 => (pfR hh9 v0 12 5 (hTop hh8)).bind fun hh10 => (nw hh10 20 12208).bind fun hh11 => (pfR hh11 v0 12 6 (hTop hh10)).bind fun hh12 => (nw hh12 20 456).bind fun hh13 => (pfR hh13 v0 12 7 (hTop hh12)).bind fun hh14 => (nw hh14 20 200).bind fun hh15 => (pfR hh15 v0 12 8 (hTop hh14)).bind fun hh16 => (nw hh16 20 1526).bind fun hh17 => (pfR hh17 v0 12 18 (hTop hh16)).bind fun hh18 => (nw hh18 20 4).bind fun hh19 => (pfR hh19 v0 12 19 (hTop hh18)).bind fun hh20 => (nw hh20 20 300).bind fun hh21 => (pfR hh21 v0 12 20 (hTop hh20)).bind fun hh22 => (nw hh22 20 320).bind fun hh23 => (pfR hh23 v0 12 26 (hTop hh22)).bind fun hh24 => (nw hh24 20 441).bind fun hh25 => (pfR hh25 v0 12 27 (hTop hh24)).bind fun hh26 => (nw hh26 20 32).bind fun hh27 => (pfR hh27 v0 12 29 (hTop hh26)).bind fun hh28 => (nw hh28 20 40).bind fun hh29 => (pfR hh29 v0 12 34 (hTop hh28)).bind fun hh30 => (nw hh30 23 3).bind fun hh31 => (pfR hh31 v0 12 36 (hTop hh30)).bind fun hh32 => (gfR hh32 v0 12 4).bind fun x1 => (asI hh32 x1 (0 : Int32) (-1 : Int32)).bind fun hh33 => some hh33
set_option maxRecDepth 20000 in
theorem ok_X12_init {r : Hp} {v0 : Nat} {h : Hp} (H : m_X12_init v0 h = some r) : Ev M_X12_init [aA v0] h (none, r) := by
  show Go M_X12_init (none, r) 0 [some (aA v0)] [] h
  unfold m_X12_init at H
  refine go_aloadn dX12_init_0 rfl ?_
  obtain ⟨c1, _, _, H⟩ := gm_rc H
  refine go_objInit so_X12_init_1 dX12_init_1 c1 (by decide) (Nat.le_of_ble_eq_true rfl) ?_
  refine go_aloadn dX12_init_4 rfl ?_
  refine go_sipush (v := (2400 : Int32)) dX12_init_5 rfl ?_
  refine gm_newarr (t := 21) (N := 2400) (atype := .byte) rfl (by decide) tw199 dX12_init_8 (by decide) (by decide) (by decide) H (fun hh1 H => ?_)
  refine gm_putR fd_X12_7 (Or.inr ⟨rfl, rfl⟩) (Or.inr ⟨_, rfl⟩) dX12_init_10 H (fun hh2 H => ?_)
  refine go_aloadn dX12_init_13 rfl ?_
  refine go_iconst (v := (4 : Int32)) dX12_init_14 rfl ?_
  refine gm_newarr (t := 20) (N := 4) (atype := .int) rfl (by decide) tw259 dX12_init_15 (by decide) (by decide) (by decide) H (fun hh3 H => ?_)
  refine gm_putR fd_X12_13 (Or.inr ⟨rfl, rfl⟩) (Or.inr ⟨_, rfl⟩) dX12_init_17 H (fun hh4 H => ?_)
  refine go_aloadn dX12_init_20 rfl ?_
  refine go_iconst (v := (4 : Int32)) dX12_init_21 rfl ?_
  refine gm_newarr (t := 20) (N := 4) (atype := .int) rfl (by decide) tw259 dX12_init_22 (by decide) (by decide) (by decide) H (fun hh5 H => ?_)
  refine gm_putR fd_X12_17 (Or.inr ⟨rfl, rfl⟩) (Or.inr ⟨_, rfl⟩) dX12_init_24 H (fun hh6 H => ?_)
  refine go_aloadn dX12_init_27 rfl ?_
  refine go_iconst (v := (4 : Int32)) dX12_init_28 rfl ?_
  refine gm_newarr (t := 20) (N := 4) (atype := .int) rfl (by decide) tw259 dX12_init_29 (by decide) (by decide) (by decide) H (fun hh7 H => ?_)
  refine gm_putR fd_X12_20 (Or.inr ⟨rfl, rfl⟩) (Or.inr ⟨_, rfl⟩) dX12_init_31 H (fun hh8 H => ?_)
  refine go_aloadn dX12_init_34 rfl ?_
  refine go_bipush (v := (12 : Int32)) dX12_init_35 rfl ?_
  refine gm_newarr (t := 20) (N := 12) (atype := .int) rfl (by decide) tw259 dX12_init_37 (by decide) (by decide) (by decide) H (fun hh9 H => ?_)
  refine gm_putR fd_X12_23 (Or.inr ⟨rfl, rfl⟩) (Or.inr ⟨_, rfl⟩) dX12_init_39 H (fun hh10 H => ?_)
  refine go_aloadn dX12_init_42 rfl ?_
  refine go_sipush (v := (12208 : Int32)) dX12_init_43 rfl ?_
  refine gm_newarr (t := 20) (N := 12208) (atype := .int) rfl (by decide) tw259 dX12_init_46 (by decide) (by decide) (by decide) H (fun hh11 H => ?_)
  refine gm_putR fd_X12_26 (Or.inr ⟨rfl, rfl⟩) (Or.inr ⟨_, rfl⟩) dX12_init_48 H (fun hh12 H => ?_)
  refine go_aloadn dX12_init_51 rfl ?_
  refine go_sipush (v := (456 : Int32)) dX12_init_52 rfl ?_
  refine gm_newarr (t := 20) (N := 456) (atype := .int) rfl (by decide) tw259 dX12_init_55 (by decide) (by decide) (by decide) H (fun hh13 H => ?_)
  refine gm_putR fd_X12_29 (Or.inr ⟨rfl, rfl⟩) (Or.inr ⟨_, rfl⟩) dX12_init_57 H (fun hh14 H => ?_)
  refine go_aloadn dX12_init_60 rfl ?_
  refine go_sipush (v := (200 : Int32)) dX12_init_61 rfl ?_
  refine gm_newarr (t := 20) (N := 200) (atype := .int) rfl (by decide) tw259 dX12_init_64 (by decide) (by decide) (by decide) H (fun hh15 H => ?_)
  refine gm_putR fd_X12_32 (Or.inr ⟨rfl, rfl⟩) (Or.inr ⟨_, rfl⟩) dX12_init_66 H (fun hh16 H => ?_)
  refine go_aloadn dX12_init_69 rfl ?_
  refine go_sipush (v := (1526 : Int32)) dX12_init_70 rfl ?_
  refine gm_newarr (t := 20) (N := 1526) (atype := .int) rfl (by decide) tw259 dX12_init_73 (by decide) (by decide) (by decide) H (fun hh17 H => ?_)
  refine gm_putR fd_X12_35 (Or.inr ⟨rfl, rfl⟩) (Or.inr ⟨_, rfl⟩) dX12_init_75 H (fun hh18 H => ?_)
  refine go_aloadn dX12_init_78 rfl ?_
  refine go_iconst (v := (4 : Int32)) dX12_init_79 rfl ?_
  refine gm_newarr (t := 20) (N := 4) (atype := .int) rfl (by decide) tw259 dX12_init_80 (by decide) (by decide) (by decide) H (fun hh19 H => ?_)
  refine gm_putR fd_X12_38 (Or.inr ⟨rfl, rfl⟩) (Or.inr ⟨_, rfl⟩) dX12_init_82 H (fun hh20 H => ?_)
  refine go_aloadn dX12_init_85 rfl ?_
  refine go_sipush (v := (300 : Int32)) dX12_init_86 rfl ?_
  refine gm_newarr (t := 20) (N := 300) (atype := .int) rfl (by decide) tw259 dX12_init_89 (by decide) (by decide) (by decide) H (fun hh21 H => ?_)
  refine gm_putR fd_X12_41 (Or.inr ⟨rfl, rfl⟩) (Or.inr ⟨_, rfl⟩) dX12_init_91 H (fun hh22 H => ?_)
  refine go_aloadn dX12_init_94 rfl ?_
  refine go_sipush (v := (320 : Int32)) dX12_init_95 rfl ?_
  refine gm_newarr (t := 20) (N := 320) (atype := .int) rfl (by decide) tw259 dX12_init_98 (by decide) (by decide) (by decide) H (fun hh23 H => ?_)
  refine gm_putR fd_X12_44 (Or.inr ⟨rfl, rfl⟩) (Or.inr ⟨_, rfl⟩) dX12_init_100 H (fun hh24 H => ?_)
  refine go_aloadn dX12_init_103 rfl ?_
  refine go_sipush (v := (441 : Int32)) dX12_init_104 rfl ?_
  refine gm_newarr (t := 20) (N := 441) (atype := .int) rfl (by decide) tw259 dX12_init_107 (by decide) (by decide) (by decide) H (fun hh25 H => ?_)
  refine gm_putR fd_X12_47 (Or.inr ⟨rfl, rfl⟩) (Or.inr ⟨_, rfl⟩) dX12_init_109 H (fun hh26 H => ?_)
  refine go_aloadn dX12_init_112 rfl ?_
  refine go_bipush (v := (32 : Int32)) dX12_init_113 rfl ?_
  refine gm_newarr (t := 20) (N := 32) (atype := .int) rfl (by decide) tw259 dX12_init_115 (by decide) (by decide) (by decide) H (fun hh27 H => ?_)
  refine gm_putR fd_X12_50 (Or.inr ⟨rfl, rfl⟩) (Or.inr ⟨_, rfl⟩) dX12_init_117 H (fun hh28 H => ?_)
  refine go_aloadn dX12_init_120 rfl ?_
  refine go_bipush (v := (40 : Int32)) dX12_init_121 rfl ?_
  refine gm_newarr (t := 20) (N := 40) (atype := .int) rfl (by decide) tw259 dX12_init_123 (by decide) (by decide) (by decide) H (fun hh29 H => ?_)
  refine gm_putR fd_X12_53 (Or.inr ⟨rfl, rfl⟩) (Or.inr ⟨_, rfl⟩) dX12_init_125 H (fun hh30 H => ?_)
  refine go_aloadn dX12_init_128 rfl ?_
  refine go_iconst (v := (3 : Int32)) dX12_init_129 rfl ?_
  refine gm_newarr (t := 23) (N := 3) (atype := .boolean) rfl (by decide) tw1485 dX12_init_130 (by decide) (by decide) (by decide) H (fun hh31 H => ?_)
  refine gm_putR fd_X12_56 (Or.inr ⟨rfl, rfl⟩) (Or.inr ⟨_, rfl⟩) dX12_init_132 H (fun hh32 H => ?_)
  refine go_aloadn dX12_init_135 rfl ?_
  refine gm_getR fd_X12_20 dX12_init_136 H (fun x1 H => ?_)
  refine go_iconst (v := (0 : Int32)) dX12_init_139 rfl ?_
  refine go_iconst (v := (-1 : Int32)) dX12_init_140 rfl ?_
  refine gm_iast dX12_init_141 H (fun hh33 H => ?_)
  obtain rfl := Option.some.inj H
  exact go_return dX12_init_142 rfl
/-! X10_hasRoom -/
def j_X10_hasRoom_22  (s0 : Int32) (h : Hp) : Option Int32 :=
  (zb s0).bind fun x1 => some x1
set_option maxRecDepth 20000 in
theorem okj_X10_hasRoom_22 {r : Int32}  (s0 : Int32) (h : Hp) (H : j_X10_hasRoom_22 s0 h = some r) : Go M_X10_hasRoom (some (aI r), h) 22 [none] [aI s0] h := by
  unfold j_X10_hasRoom_22 at H
  obtain ⟨hz, H⟩ := gm_zb H
  obtain rfl := Option.some.inj H
  exact go_ireturn (x := s0) dX10_hasRoom_22 (tyI_bool rfl hz)
def m_X10_hasRoom (v0 : Nat) (h : Hp) : Option Int32 :=
  (gfI h v0 10 1).bind fun x1 => if x1 < 0 then j_X10_hasRoom_22 (0 : Int32) h else (gfI h v0 10 1).bind fun x2 => j_X10_hasRoom_22 (if (580 : Int32) < x2 then (0 : Int32) else (1 : Int32)) h
set_option maxRecDepth 20000 in
theorem ok_X10_hasRoom {r : Int32} {v0 : Nat} {h : Hp} (H : m_X10_hasRoom v0 h = some r) : Ev M_X10_hasRoom [aA v0] h (some (aI r), h) := by
  show Go M_X10_hasRoom (some (aI r), h) 0 [some (aA v0)] [] h
  unfold m_X10_hasRoom at H
  refine go_aloadn dX10_hasRoom_0 rfl ?_
  refine gm_getI fd_X10_13 dX10_hasRoom_1 H (fun x1 H => ?_)
  refine go_if_lt (tgt := 21) dX10_hasRoom_4 (by decide) (fun c1 => ?_) (fun c1 => ?_)
  · replace H := (gm_ite H).1 c1
    refine go_iconst (v := (0 : Int32)) dX10_hasRoom_21 rfl ?_
    refine go_mask [false] (loc' := [none]) rfl ?_
    exact okj_X10_hasRoom_22 (0 : Int32) h  H
  · replace H := (gm_ite H).2 c1
    refine go_aloadn dX10_hasRoom_7 rfl ?_
    refine gm_getI fd_X10_13 dX10_hasRoom_8 H (fun x2 H => ?_)
    refine go_sipush (v := (580 : Int32)) dX10_hasRoom_11 rfl ?_
    refine go_icmp_gt (tgt := 21) dX10_hasRoom_14 (by decide) (fun c2 => ?_) (fun c2 => ?_)
    · rw [if_pos c2] at H
      refine go_iconst (v := (0 : Int32)) dX10_hasRoom_21 rfl ?_
      refine go_mask [false] (loc' := [none]) rfl ?_
      exact okj_X10_hasRoom_22 (0 : Int32) h  H
    · rw [if_neg c2] at H
      refine go_iconst (v := (1 : Int32)) dX10_hasRoom_17 rfl ?_
      refine go_goto (tgt := 22) dX10_hasRoom_18 (by decide) ?_
      refine go_mask [false] (loc' := [none]) rfl ?_
      exact okj_X10_hasRoom_22 (1 : Int32) h  H
/-! X10_add -/
def j_X10_add_49 (v0 : Nat) (v1 : Int32) (v2 : Int32)  (h : Hp) (k : Int32 → Hp → Option Hp) : Option Hp :=
  k (v2 + (-8 : Int32)) h
set_option maxRecDepth 20000 in
theorem okj_X10_add_49 {r : Hp} (v0 : Nat) (v1 : Int32) (v2 : Int32)  (h : Hp) (k : Int32 → Hp → Option Hp) (Hk : ∀ (v2q : Int32) (hq : Hp), k v2q hq = some r → Go M_X10_add (none, r) 3 [some (aA v0), some (aI v1), some (aI v2q)] [] hq) (H : j_X10_add_49 v0 v1 v2 h k = some r) : Go M_X10_add (none, r) 49 [some (aA v0), some (aI v1), some (aI v2)] [] h := by
  unfold j_X10_add_49 at H
  refine go_iinc (v := (v2 + (-8 : Int32))) (loc2 := [some (aA v0), some (aI v1), some (aI (v2 + (-8 : Int32)))]) dX10_add_49 rfl rfl (by decide) rfl ?_
  refine go_goto (tgt := 3) dX10_add_52 (by decide) ?_
  exact Hk (v2 + (-8 : Int32)) h H
def b_X10_add_3 (v0 : Nat) (v1 : Int32) (k : Int32 → Hp → Option Hp) (v2 : Int32) (h : Hp) : Option Hp :=
  if v2 < 0 then (some h) else (gfI h v0 10 1).bind fun x1 => if x1 < 0 then j_X10_add_49 v0 v1 v2 h k else (gfI h v0 10 1).bind fun x2 => (gfR h v0 10 0).bind fun x3 => (alen h x3 21).bind fun x4 => if x4 ≤ x2 then j_X10_add_49 v0 v1 v2 h k else (gfR h v0 10 0).bind fun x5 => (gfI h v0 10 1).bind fun x6 => (asB h x5 x6 ((Int32.toInt8 (iushrF v1 v2)).toInt32)).bind fun hh1 => (gfI hh1 v0 10 1).bind fun x7 => (pfI hh1 v0 10 1 (x7 + (1 : Int32))).bind fun hh2 => j_X10_add_49 v0 v1 v2 hh2 k
set_option maxRecDepth 20000 in
theorem okb_X10_add_3 {r : Hp} (v0 : Nat) (v1 : Int32) (k : Int32 → Hp → Option Hp) (v2 : Int32) (h : Hp) (Hk : ∀ (v2q : Int32) (hq : Hp), k v2q hq = some r → Go M_X10_add (none, r) 3 [some (aA v0), some (aI v1), some (aI v2q)] [] hq) (H : b_X10_add_3 v0 v1 k v2 h = some r) : Go M_X10_add (none, r) 3 [some (aA v0), some (aI v1), some (aI v2)] [] h := by
  unfold b_X10_add_3 at H
  refine go_iloadn dX10_add_3 rfl ?_
  refine go_if_lt (tgt := 55) dX10_add_4 (by decide) (fun c1 => ?_) (fun c1 => ?_)
  · replace H := (gm_ite H).1 c1
    obtain rfl := Option.some.inj H
    exact go_return dX10_add_55 rfl
  · replace H := (gm_ite H).2 c1
    refine go_aloadn dX10_add_7 rfl ?_
    refine gm_getI fd_X10_13 dX10_add_8 H (fun x1 H => ?_)
    refine go_if_lt (tgt := 49) dX10_add_11 (by decide) (fun c2 => ?_) (fun c2 => ?_)
    · replace H := (gm_ite H).1 c2
      exact okj_X10_add_49 v0 v1 v2 h k Hk H
    · replace H := (gm_ite H).2 c2
      refine go_aloadn dX10_add_14 rfl ?_
      refine gm_getI fd_X10_13 dX10_add_15 H (fun x2 H => ?_)
      refine go_aloadn dX10_add_18 rfl ?_
      refine gm_getR fd_X10_9 dX10_add_19 H (fun x3 H => ?_)
      refine gm_alen (by decide) dX10_add_22 H (fun x4 H => ?_)
      refine go_icmp_ge (tgt := 49) dX10_add_23 (by decide) (fun c3 => ?_) (fun c3 => ?_)
      · replace H := (gm_ite H).1 c3
        exact okj_X10_add_49 v0 v1 v2 h k Hk H
      · replace H := (gm_ite H).2 c3
        refine go_aloadn dX10_add_26 rfl ?_
        refine gm_getR fd_X10_9 dX10_add_27 H (fun x5 H => ?_)
        refine go_aloadn dX10_add_30 rfl ?_
        refine gm_getI fd_X10_13 dX10_add_31 H (fun x6 H => ?_)
        refine go_iloadn dX10_add_34 rfl ?_
        refine go_iloadn dX10_add_35 rfl ?_
        refine go_iushr dX10_add_36 ?_
        refine go_i2b dX10_add_37 ?_
        refine gm_bast dX10_add_38 H (fun hh1 H => ?_)
        refine go_aloadn dX10_add_39 rfl ?_
        refine go_dupA dX10_add_40 ?_
        refine gm_getI fd_X10_13 dX10_add_41 H (fun x7 H => ?_)
        refine go_iconst (v := (1 : Int32)) dX10_add_44 rfl ?_
        refine go_iadd dX10_add_45 ?_
        refine gm_putI fd_X10_13 (Or.inl rfl) dX10_add_46 H (fun hh2 H => ?_)
        exact okj_X10_add_49 v0 v1 v2 hh2 k Hk H
def l_X10_add_3 (v0 : Nat) (v1 : Int32) (v2 : Int32) (h : Hp) : Option Hp := loopK FUEL (fun (k : Int32 × Hp → Option Hp) (s : Int32 × Hp) => b_X10_add_3 v0 v1 (fun v2q hq => k (v2q, hq)) s.1 s.2) (v2, h)
theorem okl_X10_add_3 {r : Hp} (v0 : Nat) (v1 : Int32) (v2 : Int32) (h : Hp) (H : l_X10_add_3 v0 v1 v2 h = some r) : Go M_X10_add (none, r) 3 [some (aA v0), some (aI v1), some (aI v2)] [] h := by
  unfold l_X10_add_3 at H
  exact go_loop (σ := Int32 × Hp) (body := (fun (k : Int32 × Hp → Option Hp) (s : Int32 × Hp) => b_X10_add_3 v0 v1 (fun v2q hq => k (v2q, hq)) s.1 s.2)) (fun s => [some (aA v0), some (aI v1), some (aI s.1)]) (fun s => s.2) (fun k s Hk H => okb_X10_add_3 v0 v1 (fun v2q hq => k (v2q, hq)) s.1 s.2  (fun v2q hq H => Hk (v2q, hq) H) H) FUEL (v2, h) H
def m_X10_add (v0 : Nat) (v1 : Int32) (h : Hp) : Option Hp :=
  l_X10_add_3 v0 v1 (24 : Int32) h
set_option maxRecDepth 20000 in
theorem ok_X10_add {r : Hp} {v0 : Nat} {v1 : Int32} {h : Hp} (H : m_X10_add v0 v1 h = some r) : Ev M_X10_add [aA v0, aI v1] h (none, r) := by
  show Go M_X10_add (none, r) 0 [some (aA v0), some (aI v1), none] [] h
  unfold m_X10_add at H
  refine go_bipush (v := (24 : Int32)) dX10_add_0 rfl ?_
  refine go_istoren (loc2 := [some (aA v0), some (aI v1), some (aI (24 : Int32))]) dX10_add_2 rfl (by decide) rfl ?_
  exact okl_X10_add_3 v0 v1 (24 : Int32) h H
/-! X11_feed -/
def m_X11_feed (v0 : Nat) (v1 : Int32) (v2 : Int32) (v3 : Int32) (v4 : Int32) (v5 : Int32) (h : Hp) : Option (Int32 × Hp) :=
  (gfR h v0 11 0).bind fun x1 => (gfR h x1 9 0).bind fun x2 => (rc h x2 10 (m_X10_hasRoom x2 h)).bind fun x3 => if ¬ x3 = 0 then ((rc h x2 10 (m_X10_add x2 v1 h)).bind fun x4 => (rc x4 x2 10 (m_X10_add x2 v2 x4)).bind fun x5 => (rc x5 x2 10 (m_X10_add x2 v3 x5)).bind fun x6 => (rc x6 x2 10 (m_X10_add x2 v4 x6)).bind fun x7 => (rc x7 x2 10 (m_X10_add x2 v5 x7)).bind fun x8 => (gfI x8 x2 10 1).bind fun x9 => some (x9, x8)) else some ((-1 : Int32), h)
set_option maxRecDepth 20000 in
theorem ok_X11_feed {r : (Int32 × Hp)} {v0 : Nat} {v1 : Int32} {v2 : Int32} {v3 : Int32} {v4 : Int32} {v5 : Int32} {h : Hp} (H : m_X11_feed v0 v1 v2 v3 v4 v5 h = some r) : Ev M_X11_feed [aA v0, aI v1, aI v2, aI v3, aI v4, aI v5] h (some (aI r.1), r.2) := by
  show Go M_X11_feed (some (aI r.1), r.2) 0 [some (aA v0), some (aI v1), some (aI v2), some (aI v3), some (aI v4), some (aI v5), none] [] h
  unfold m_X11_feed at H
  refine go_aloadn dX11_feed_0 rfl ?_
  refine gm_getR fd_X11_10 dX11_feed_1 H (fun x1 H => ?_)
  refine gm_getR fd_X11_48 dX11_feed_4 H (fun x2 H => ?_)
  refine go_astore (loc2 := [some (aA v0), some (aI v1), some (aI v2), some (aI v3), some (aI v4), some (aI v5), some (aA x2)]) dX11_feed_7 (by decide) rfl ?_
  refine go_aload dX11_feed_9 rfl ?_
  obtain ⟨c1, x3, ex3, H⟩ := gm_rc H
  refine go_callV (vs := []) (stk := []) (o1 := (some (aI x3), h)) mk_X10_hasRoom sv_X11_feed_52 cl_X10 rfl dX11_feed_11 c1 rfl rfl (Nat.le_of_ble_eq_true rfl) (Nat.le_of_ble_eq_true rfl) (ok_X10_hasRoom ex3) (show Go M_X11_feed (some (aI r.1), r.2) 14 [some (aA v0), some (aI v1), some (aI v2), some (aI v3), some (aI v4), some (aI v5), some (aA x2)] [aI x3] h from ?_)
  refine go_if_ne (tgt := 19) dX11_feed_14 (by decide) (fun c2 => ?_) (fun c2 => ?_)
  · replace H := (gm_ite H).1 c2
    refine go_aload dX11_feed_19 rfl ?_
    refine go_iloadn dX11_feed_21 rfl ?_
    obtain ⟨c3, x4, ex4, H⟩ := gm_rc H
    refine go_callV (vs := [aI v1]) (stk := []) (o1 := (none, x4)) mk_X10_add sv_X11_feed_58 cl_X10 rfl dX11_feed_22 c3 rfl rfl (Nat.le_of_ble_eq_true rfl) (Nat.le_of_ble_eq_true rfl) (ok_X10_add ex4) (show Go M_X11_feed (some (aI r.1), r.2) 25 [some (aA v0), some (aI v1), some (aI v2), some (aI v3), some (aI v4), some (aI v5), some (aA x2)] [] x4 from ?_)
    refine go_aload dX11_feed_25 rfl ?_
    refine go_iloadn dX11_feed_27 rfl ?_
    obtain ⟨c4, x5, ex5, H⟩ := gm_rc H
    refine go_callV (vs := [aI v2]) (stk := []) (o1 := (none, x5)) mk_X10_add sv_X11_feed_58 cl_X10 rfl dX11_feed_28 c4 rfl rfl (Nat.le_of_ble_eq_true rfl) (Nat.le_of_ble_eq_true rfl) (ok_X10_add ex5) (show Go M_X11_feed (some (aI r.1), r.2) 31 [some (aA v0), some (aI v1), some (aI v2), some (aI v3), some (aI v4), some (aI v5), some (aA x2)] [] x5 from ?_)
    refine go_aload dX11_feed_31 rfl ?_
    refine go_iloadn dX11_feed_33 rfl ?_
    obtain ⟨c5, x6, ex6, H⟩ := gm_rc H
    refine go_callV (vs := [aI v3]) (stk := []) (o1 := (none, x6)) mk_X10_add sv_X11_feed_58 cl_X10 rfl dX11_feed_34 c5 rfl rfl (Nat.le_of_ble_eq_true rfl) (Nat.le_of_ble_eq_true rfl) (ok_X10_add ex6) (show Go M_X11_feed (some (aI r.1), r.2) 37 [some (aA v0), some (aI v1), some (aI v2), some (aI v3), some (aI v4), some (aI v5), some (aA x2)] [] x6 from ?_)
    refine go_aload dX11_feed_37 rfl ?_
    refine go_iload dX11_feed_39 rfl ?_
    obtain ⟨c6, x7, ex7, H⟩ := gm_rc H
    refine go_callV (vs := [aI v4]) (stk := []) (o1 := (none, x7)) mk_X10_add sv_X11_feed_58 cl_X10 rfl dX11_feed_41 c6 rfl rfl (Nat.le_of_ble_eq_true rfl) (Nat.le_of_ble_eq_true rfl) (ok_X10_add ex7) (show Go M_X11_feed (some (aI r.1), r.2) 44 [some (aA v0), some (aI v1), some (aI v2), some (aI v3), some (aI v4), some (aI v5), some (aA x2)] [] x7 from ?_)
    refine go_aload dX11_feed_44 rfl ?_
    refine go_iload dX11_feed_46 rfl ?_
    obtain ⟨c7, x8, ex8, H⟩ := gm_rc H
    refine go_callV (vs := [aI v5]) (stk := []) (o1 := (none, x8)) mk_X10_add sv_X11_feed_58 cl_X10 rfl dX11_feed_48 c7 rfl rfl (Nat.le_of_ble_eq_true rfl) (Nat.le_of_ble_eq_true rfl) (ok_X10_add ex8) (show Go M_X11_feed (some (aI r.1), r.2) 51 [some (aA v0), some (aI v1), some (aI v2), some (aI v3), some (aI v4), some (aI v5), some (aA x2)] [] x8 from ?_)
    refine go_aload dX11_feed_51 rfl ?_
    refine gm_getI fd_X11_62 dX11_feed_53 H (fun x9 H => ?_)
    obtain rfl := Option.some.inj H
    exact go_ireturn dX11_feed_56 (tyI_int rfl)
  · replace H := (gm_ite H).2 c2
    refine go_iconst (v := (-1 : Int32)) dX11_feed_17 rfl ?_
    obtain rfl := Option.some.inj H
    exact go_ireturn dX11_feed_18 (tyI_int rfl)
/-! X12_four -/
def b_X12_four_3 (v0 : Nat) (v1 : Int32) (k : Int32 → Hp → Option Hp) (v2 : Int32) (h : Hp) : Option Hp :=
  if v2 < 0 then (some h) else (gfR h v0 12 1).bind fun x1 => (gfR h v0 12 2).bind fun x2 => (alI h x2 (0 : Int32)).bind fun x3 => (asB h x1 x3 ((Int32.toInt8 (ishrF v1 v2)).toInt32)).bind fun hh1 => (gfR hh1 v0 12 2).bind fun x4 => (alI hh1 x4 (0 : Int32)).bind fun x5 => (asI hh1 x4 (0 : Int32) (x5 + (1 : Int32))).bind fun hh2 => k (v2 + (-8 : Int32)) hh2
set_option maxRecDepth 20000 in
theorem okb_X12_four_3 {r : Hp} (v0 : Nat) (v1 : Int32) (k : Int32 → Hp → Option Hp) (v2 : Int32) (h : Hp) (Hk : ∀ (v2q : Int32) (hq : Hp), k v2q hq = some r → Go M_X12_four (none, r) 3 [some (aA v0), some (aI v1), some (aI v2q)] [] hq) (H : b_X12_four_3 v0 v1 k v2 h = some r) : Go M_X12_four (none, r) 3 [some (aA v0), some (aI v1), some (aI v2)] [] h := by
  unfold b_X12_four_3 at H
  refine go_iloadn dX12_four_3 rfl ?_
  refine go_if_lt (tgt := 38) dX12_four_4 (by decide) (fun c1 => ?_) (fun c1 => ?_)
  · replace H := (gm_ite H).1 c1
    obtain rfl := Option.some.inj H
    exact go_return dX12_four_38 rfl
  · replace H := (gm_ite H).2 c1
    refine go_aloadn dX12_four_7 rfl ?_
    refine gm_getR fd_X12_7 dX12_four_8 H (fun x1 H => ?_)
    refine go_aloadn dX12_four_11 rfl ?_
    refine gm_getR fd_X12_13 dX12_four_12 H (fun x2 H => ?_)
    refine go_iconst (v := (0 : Int32)) dX12_four_15 rfl ?_
    refine gm_iald dX12_four_16 H (fun x3 H => ?_)
    refine go_iloadn dX12_four_17 rfl ?_
    refine go_iloadn dX12_four_18 rfl ?_
    refine go_ishr dX12_four_19 ?_
    refine go_i2b dX12_four_20 ?_
    refine gm_bast dX12_four_21 H (fun hh1 H => ?_)
    refine go_aloadn dX12_four_22 rfl ?_
    refine gm_getR fd_X12_13 dX12_four_23 H (fun x4 H => ?_)
    refine go_iconst (v := (0 : Int32)) dX12_four_26 rfl ?_
    refine go_dup2IA dX12_four_27 ?_
    refine gm_iald dX12_four_28 H (fun x5 H => ?_)
    refine go_iconst (v := (1 : Int32)) dX12_four_29 rfl ?_
    refine go_iadd dX12_four_30 ?_
    refine gm_iast dX12_four_31 H (fun hh2 H => ?_)
    refine go_iinc (v := (v2 + (-8 : Int32))) (loc2 := [some (aA v0), some (aI v1), some (aI (v2 + (-8 : Int32)))]) dX12_four_32 rfl rfl (by decide) rfl ?_
    refine go_goto (tgt := 3) dX12_four_35 (by decide) ?_
    exact Hk (v2 + (-8 : Int32)) hh2 H
def l_X12_four_3 (v0 : Nat) (v1 : Int32) (v2 : Int32) (h : Hp) : Option Hp := loopK FUEL (fun (k : Int32 × Hp → Option Hp) (s : Int32 × Hp) => b_X12_four_3 v0 v1 (fun v2q hq => k (v2q, hq)) s.1 s.2) (v2, h)
theorem okl_X12_four_3 {r : Hp} (v0 : Nat) (v1 : Int32) (v2 : Int32) (h : Hp) (H : l_X12_four_3 v0 v1 v2 h = some r) : Go M_X12_four (none, r) 3 [some (aA v0), some (aI v1), some (aI v2)] [] h := by
  unfold l_X12_four_3 at H
  exact go_loop (σ := Int32 × Hp) (body := (fun (k : Int32 × Hp → Option Hp) (s : Int32 × Hp) => b_X12_four_3 v0 v1 (fun v2q hq => k (v2q, hq)) s.1 s.2)) (fun s => [some (aA v0), some (aI v1), some (aI s.1)]) (fun s => s.2) (fun k s Hk H => okb_X12_four_3 v0 v1 (fun v2q hq => k (v2q, hq)) s.1 s.2  (fun v2q hq H => Hk (v2q, hq) H) H) FUEL (v2, h) H
def m_X12_four (v0 : Nat) (v1 : Int32) (h : Hp) : Option Hp :=
  l_X12_four_3 v0 v1 (24 : Int32) h
set_option maxRecDepth 20000 in
theorem ok_X12_four {r : Hp} {v0 : Nat} {v1 : Int32} {h : Hp} (H : m_X12_four v0 v1 h = some r) : Ev M_X12_four [aA v0, aI v1] h (none, r) := by
  show Go M_X12_four (none, r) 0 [some (aA v0), some (aI v1), none] [] h
  unfold m_X12_four at H
  refine go_bipush (v := (24 : Int32)) dX12_four_0 rfl ?_
  refine go_istoren (loc2 := [some (aA v0), some (aI v1), some (aI (24 : Int32))]) dX12_four_2 rfl (by decide) rfl ?_
  exact okl_X12_four_3 v0 v1 (24 : Int32) h H
/-! X12_feed -/
def m_X12_feed (v0 : Nat) (v1 : Int32) (v2 : Int32) (v3 : Int32) (v4 : Int32) (v5 : Int32) (h : Hp) : Option (Int32 × Hp) :=
  (pfI h v0 12 0 (0 : Int32)).bind fun hh1 => (gfR hh1 v0 12 2).bind fun x1 => (alI hh1 x1 (0 : Int32)).bind fun x2 => if (x2 + (20 : Int32)) ≤ (600 : Int32) then ((rc hh1 v0 12 (m_X12_four v0 v1 hh1)).bind fun x3 => (rc x3 v0 12 (m_X12_four v0 v2 x3)).bind fun x4 => (rc x4 v0 12 (m_X12_four v0 v3 x4)).bind fun x5 => (rc x5 v0 12 (m_X12_four v0 v4 x5)).bind fun x6 => (rc x6 v0 12 (m_X12_four v0 v5 x6)).bind fun x7 => (gfR x7 v0 12 2).bind fun x8 => (alI x7 x8 (0 : Int32)).bind fun x9 => some (x9, x7)) else some ((-1 : Int32), hh1)
set_option maxRecDepth 20000 in
theorem ok_X12_feed {r : (Int32 × Hp)} {v0 : Nat} {v1 : Int32} {v2 : Int32} {v3 : Int32} {v4 : Int32} {v5 : Int32} {h : Hp} (H : m_X12_feed v0 v1 v2 v3 v4 v5 h = some r) : Ev M_X12_feed [aA v0, aI v1, aI v2, aI v3, aI v4, aI v5] h (some (aI r.1), r.2) := by
  show Go M_X12_feed (some (aI r.1), r.2) 0 [some (aA v0), some (aI v1), some (aI v2), some (aI v3), some (aI v4), some (aI v5)] [] h
  unfold m_X12_feed at H
  refine go_aloadn dX12_feed_0 rfl ?_
  refine go_iconst (v := (0 : Int32)) dX12_feed_1 rfl ?_
  refine gm_putI fd_X12_60 (Or.inl rfl) dX12_feed_2 H (fun hh1 H => ?_)
  refine go_aloadn dX12_feed_5 rfl ?_
  refine gm_getR fd_X12_13 dX12_feed_6 H (fun x1 H => ?_)
  refine go_iconst (v := (0 : Int32)) dX12_feed_9 rfl ?_
  refine gm_iald dX12_feed_10 H (fun x2 H => ?_)
  refine go_bipush (v := (20 : Int32)) dX12_feed_11 rfl ?_
  refine go_iadd dX12_feed_13 ?_
  refine go_sipush (v := (600 : Int32)) dX12_feed_14 rfl ?_
  refine go_icmp_le (tgt := 22) dX12_feed_17 (by decide) (fun c1 => ?_) (fun c1 => ?_)
  · replace H := (gm_ite H).1 c1
    refine go_aloadn dX12_feed_22 rfl ?_
    refine go_iloadn dX12_feed_23 rfl ?_
    obtain ⟨c2, x3, ex3, H⟩ := gm_rc H
    refine go_callV (vs := [aI v1]) (stk := []) (o1 := (none, x3)) mk_X12_four sv_X12_feed_76 cl_X12 rfl dX12_feed_24 c2 rfl rfl (Nat.le_of_ble_eq_true rfl) (Nat.le_of_ble_eq_true rfl) (ok_X12_four ex3) (show Go M_X12_feed (some (aI r.1), r.2) 27 [some (aA v0), some (aI v1), some (aI v2), some (aI v3), some (aI v4), some (aI v5)] [] x3 from ?_)
    refine go_aloadn dX12_feed_27 rfl ?_
    refine go_iloadn dX12_feed_28 rfl ?_
    obtain ⟨c3, x4, ex4, H⟩ := gm_rc H
    refine go_callV (vs := [aI v2]) (stk := []) (o1 := (none, x4)) mk_X12_four sv_X12_feed_76 cl_X12 rfl dX12_feed_29 c3 rfl rfl (Nat.le_of_ble_eq_true rfl) (Nat.le_of_ble_eq_true rfl) (ok_X12_four ex4) (show Go M_X12_feed (some (aI r.1), r.2) 32 [some (aA v0), some (aI v1), some (aI v2), some (aI v3), some (aI v4), some (aI v5)] [] x4 from ?_)
    refine go_aloadn dX12_feed_32 rfl ?_
    refine go_iloadn dX12_feed_33 rfl ?_
    obtain ⟨c4, x5, ex5, H⟩ := gm_rc H
    refine go_callV (vs := [aI v3]) (stk := []) (o1 := (none, x5)) mk_X12_four sv_X12_feed_76 cl_X12 rfl dX12_feed_34 c4 rfl rfl (Nat.le_of_ble_eq_true rfl) (Nat.le_of_ble_eq_true rfl) (ok_X12_four ex5) (show Go M_X12_feed (some (aI r.1), r.2) 37 [some (aA v0), some (aI v1), some (aI v2), some (aI v3), some (aI v4), some (aI v5)] [] x5 from ?_)
    refine go_aloadn dX12_feed_37 rfl ?_
    refine go_iload dX12_feed_38 rfl ?_
    obtain ⟨c5, x6, ex6, H⟩ := gm_rc H
    refine go_callV (vs := [aI v4]) (stk := []) (o1 := (none, x6)) mk_X12_four sv_X12_feed_76 cl_X12 rfl dX12_feed_40 c5 rfl rfl (Nat.le_of_ble_eq_true rfl) (Nat.le_of_ble_eq_true rfl) (ok_X12_four ex6) (show Go M_X12_feed (some (aI r.1), r.2) 43 [some (aA v0), some (aI v1), some (aI v2), some (aI v3), some (aI v4), some (aI v5)] [] x6 from ?_)
    refine go_aloadn dX12_feed_43 rfl ?_
    refine go_iload dX12_feed_44 rfl ?_
    obtain ⟨c6, x7, ex7, H⟩ := gm_rc H
    refine go_callV (vs := [aI v5]) (stk := []) (o1 := (none, x7)) mk_X12_four sv_X12_feed_76 cl_X12 rfl dX12_feed_46 c6 rfl rfl (Nat.le_of_ble_eq_true rfl) (Nat.le_of_ble_eq_true rfl) (ok_X12_four ex7) (show Go M_X12_feed (some (aI r.1), r.2) 49 [some (aA v0), some (aI v1), some (aI v2), some (aI v3), some (aI v4), some (aI v5)] [] x7 from ?_)
    refine go_aloadn dX12_feed_49 rfl ?_
    refine gm_getR fd_X12_13 dX12_feed_50 H (fun x8 H => ?_)
    refine go_iconst (v := (0 : Int32)) dX12_feed_53 rfl ?_
    refine gm_iald dX12_feed_54 H (fun x9 H => ?_)
    obtain rfl := Option.some.inj H
    exact go_ireturn dX12_feed_55 (tyI_int rfl)
  · replace H := (gm_ite H).2 c1
    refine go_iconst (v := (-1 : Int32)) dX12_feed_20 rfl ?_
    obtain rfl := Option.some.inj H
    exact go_ireturn dX12_feed_21 (tyI_int rfl)
/-! X11_end -/
def m_X11_end (v0 : Nat) (v1 : Int32) (h : Hp) : Option (Int32 × Hp) :=
  if v1 < 0 then (some ((-1 : Int32), h)) else (gfR h v0 11 0).bind fun x1 => (gfR h x1 9 0).bind fun x2 => (gfI h x2 10 1).bind fun x3 => if v1 ≤ x3 then ((gfR h v0 11 0).bind fun x4 => (gfR h x4 9 0).bind fun x5 => (pfI h x5 10 1 v1).bind fun hh1 => some (v1, hh1)) else some ((-1 : Int32), h)
set_option maxRecDepth 20000 in
theorem ok_X11_end {r : (Int32 × Hp)} {v0 : Nat} {v1 : Int32} {h : Hp} (H : m_X11_end v0 v1 h = some r) : Ev M_X11_end [aA v0, aI v1] h (some (aI r.1), r.2) := by
  show Go M_X11_end (some (aI r.1), r.2) 0 [some (aA v0), some (aI v1)] [] h
  unfold m_X11_end at H
  refine go_iloadn dX11_end_0 rfl ?_
  refine go_if_lt (tgt := 18) dX11_end_1 (by decide) (fun c1 => ?_) (fun c1 => ?_)
  · replace H := (gm_ite H).1 c1
    refine go_iconst (v := (-1 : Int32)) dX11_end_18 rfl ?_
    obtain rfl := Option.some.inj H
    exact go_ireturn dX11_end_19 (tyI_int rfl)
  · replace H := (gm_ite H).2 c1
    refine go_iloadn dX11_end_4 rfl ?_
    refine go_aloadn dX11_end_5 rfl ?_
    refine gm_getR fd_X11_10 dX11_end_6 H (fun x1 H => ?_)
    refine gm_getR fd_X11_48 dX11_end_9 H (fun x2 H => ?_)
    refine gm_getI fd_X11_62 dX11_end_12 H (fun x3 H => ?_)
    refine go_icmp_le (tgt := 20) dX11_end_15 (by decide) (fun c2 => ?_) (fun c2 => ?_)
    · replace H := (gm_ite H).1 c2
      refine go_aloadn dX11_end_20 rfl ?_
      refine gm_getR fd_X11_10 dX11_end_21 H (fun x4 H => ?_)
      refine gm_getR fd_X11_48 dX11_end_24 H (fun x5 H => ?_)
      refine go_iloadn dX11_end_27 rfl ?_
      refine gm_putI fd_X11_62 (Or.inl rfl) dX11_end_28 H (fun hh1 H => ?_)
      refine go_iloadn dX11_end_31 rfl ?_
      obtain rfl := Option.some.inj H
      exact go_ireturn dX11_end_32 (tyI_int rfl)
    · replace H := (gm_ite H).2 c2
      refine go_iconst (v := (-1 : Int32)) dX11_end_18 rfl ?_
      obtain rfl := Option.some.inj H
      exact go_ireturn dX11_end_19 (tyI_int rfl)
/-! X12_in -/
def j_X12_in_15  (s0 : Int32) (h : Hp) : Option Int32 :=
  (zb s0).bind fun x1 => some x1
set_option maxRecDepth 20000 in
theorem okj_X12_in_15 {r : Int32}  (s0 : Int32) (h : Hp) (H : j_X12_in_15 s0 h = some r) : Go M_X12_in (some (aI r), h) 15 [none, none, none] [aI s0] h := by
  unfold j_X12_in_15 at H
  obtain ⟨hz, H⟩ := gm_zb H
  obtain rfl := Option.some.inj H
  exact go_ireturn (x := s0) dX12_in_15 (tyI_bool rfl hz)
def m_X12_in (v0 : Int32) (v1 : Int32) (v2 : Int32) (h : Hp) : Option Int32 :=
  j_X12_in_15 (if v0 < v1 then (0 : Int32) else (if v2 < v0 then (0 : Int32) else (1 : Int32))) h
set_option maxRecDepth 20000 in
theorem ok_X12_in {r : Int32} {v0 : Int32} {v1 : Int32} {v2 : Int32} {h : Hp} (H : m_X12_in v0 v1 v2 h = some r) : Ev M_X12_in [aI v0, aI v1, aI v2] h (some (aI r), h) := by
  show Go M_X12_in (some (aI r), h) 0 [some (aI v0), some (aI v1), some (aI v2)] [] h
  unfold m_X12_in at H
  refine go_iloadn dX12_in_0 rfl ?_
  refine go_iloadn dX12_in_1 rfl ?_
  refine go_icmp_lt (tgt := 14) dX12_in_2 (by decide) (fun c1 => ?_) (fun c1 => ?_)
  · rw [if_pos c1] at H
    refine go_iconst (v := (0 : Int32)) dX12_in_14 rfl ?_
    refine go_mask [false, false, false] (loc' := [none, none, none]) rfl ?_
    exact okj_X12_in_15 (0 : Int32) h  H
  · rw [if_neg c1] at H
    refine go_iloadn dX12_in_5 rfl ?_
    refine go_iloadn dX12_in_6 rfl ?_
    refine go_icmp_gt (tgt := 14) dX12_in_7 (by decide) (fun c2 => ?_) (fun c2 => ?_)
    · rw [if_pos c2] at H
      refine go_iconst (v := (0 : Int32)) dX12_in_14 rfl ?_
      refine go_mask [false, false, false] (loc' := [none, none, none]) rfl ?_
      exact okj_X12_in_15 (0 : Int32) h  H
    · rw [if_neg c2] at H
      refine go_iconst (v := (1 : Int32)) dX12_in_10 rfl ?_
      refine go_goto (tgt := 15) dX12_in_11 (by decide) ?_
      refine go_mask [false, false, false] (loc' := [none, none, none]) rfl ?_
      exact okj_X12_in_15 (1 : Int32) h  H
/-! X12_end -/
def m_X12_end (v0 : Nat) (v1 : Int32) (h : Hp) : Option (Int32 × Hp) :=
  (pfI h v0 12 0 (0 : Int32)).bind fun hh1 => (gfR hh1 v0 12 2).bind fun x1 => (alI hh1 x1 (0 : Int32)).bind fun x2 => (m_X12_in v1 (0 : Int32) x2 hh1).bind fun x3 => if ¬ x3 = 0 then ((gfR hh1 v0 12 2).bind fun x4 => (asI hh1 x4 (0 : Int32) v1).bind fun hh2 => some (v1, hh2)) else some ((-1 : Int32), hh1)
set_option maxRecDepth 20000 in
theorem ok_X12_end {r : (Int32 × Hp)} {v0 : Nat} {v1 : Int32} {h : Hp} (H : m_X12_end v0 v1 h = some r) : Ev M_X12_end [aA v0, aI v1] h (some (aI r.1), r.2) := by
  show Go M_X12_end (some (aI r.1), r.2) 0 [some (aA v0), some (aI v1)] [] h
  unfold m_X12_end at H
  refine go_aloadn dX12_end_0 rfl ?_
  refine go_iconst (v := (0 : Int32)) dX12_end_1 rfl ?_
  refine gm_putI fd_X12_60 (Or.inl rfl) dX12_end_2 H (fun hh1 H => ?_)
  refine go_iloadn dX12_end_5 rfl ?_
  refine go_iconst (v := (0 : Int32)) dX12_end_6 rfl ?_
  refine go_aloadn dX12_end_7 rfl ?_
  refine gm_getR fd_X12_13 dX12_end_8 H (fun x1 H => ?_)
  refine go_iconst (v := (0 : Int32)) dX12_end_11 rfl ?_
  refine gm_iald dX12_end_12 H (fun x2 H => ?_)
  obtain ⟨x3, ex3, H⟩ := bind_some H
  refine go_callS (vs := [aI v1, aI (0 : Int32), aI x2]) (stk := []) (o1 := (some (aI x3), hh1)) mk_X12_in ss_X12_end_72 dX12_end_13 rfl rfl (Nat.le_of_ble_eq_true rfl) (Nat.le_of_ble_eq_true rfl) (ok_X12_in ex3) (show Go M_X12_end (some (aI r.1), r.2) 16 [some (aA v0), some (aI v1)] [aI x3] hh1 from ?_)
  refine go_if_ne (tgt := 21) dX12_end_16 (by decide) (fun c2 => ?_) (fun c2 => ?_)
  · replace H := (gm_ite H).1 c2
    refine go_aloadn dX12_end_21 rfl ?_
    refine gm_getR fd_X12_13 dX12_end_22 H (fun x4 H => ?_)
    refine go_iconst (v := (0 : Int32)) dX12_end_25 rfl ?_
    refine go_iloadn dX12_end_26 rfl ?_
    refine gm_iast dX12_end_27 H (fun hh2 H => ?_)
    refine go_iloadn dX12_end_28 rfl ?_
    obtain rfl := Option.some.inj H
    exact go_ireturn dX12_end_29 (tyI_int rfl)
  · replace H := (gm_ite H).2 c2
    refine go_iconst (v := (-1 : Int32)) dX12_end_19 rfl ?_
    obtain rfl := Option.some.inj H
    exact go_ireturn dX12_end_20 (tyI_int rfl)
/-! X9_isSort -/
def j_X9_isSort_14  (s0 : Int32) (h : Hp) : Option Int32 :=
  (zb s0).bind fun x1 => some x1
set_option maxRecDepth 20000 in
theorem okj_X9_isSort_14 {r : Int32}  (s0 : Int32) (h : Hp) (H : j_X9_isSort_14 s0 h = some r) : Go M_X9_isSort (some (aI r), h) 14 [none, none] [aI s0] h := by
  unfold j_X9_isSort_14 at H
  obtain ⟨hz, H⟩ := gm_zb H
  obtain rfl := Option.some.inj H
  exact go_ireturn (x := s0) dX9_isSort_14 (tyI_bool rfl hz)
def m_X9_isSort (v0 : Nat) (v1 : Int32) (h : Hp) : Option Int32 :=
  j_X9_isSort_14 (if v1 < 0 then (0 : Int32) else (if (3 : Int32) ≤ v1 then (0 : Int32) else (1 : Int32))) h
set_option maxRecDepth 20000 in
theorem ok_X9_isSort {r : Int32} {v0 : Nat} {v1 : Int32} {h : Hp} (H : m_X9_isSort v0 v1 h = some r) : Ev M_X9_isSort [aA v0, aI v1] h (some (aI r), h) := by
  show Go M_X9_isSort (some (aI r), h) 0 [some (aA v0), some (aI v1)] [] h
  unfold m_X9_isSort at H
  refine go_iloadn dX9_isSort_0 rfl ?_
  refine go_if_lt (tgt := 13) dX9_isSort_1 (by decide) (fun c1 => ?_) (fun c1 => ?_)
  · rw [if_pos c1] at H
    refine go_iconst (v := (0 : Int32)) dX9_isSort_13 rfl ?_
    refine go_mask [false, false] (loc' := [none, none]) rfl ?_
    exact okj_X9_isSort_14 (0 : Int32) h  H
  · rw [if_neg c1] at H
    refine go_iloadn dX9_isSort_4 rfl ?_
    refine go_iconst (v := (3 : Int32)) dX9_isSort_5 rfl ?_
    refine go_icmp_ge (tgt := 13) dX9_isSort_6 (by decide) (fun c2 => ?_) (fun c2 => ?_)
    · rw [if_pos c2] at H
      refine go_iconst (v := (0 : Int32)) dX9_isSort_13 rfl ?_
      refine go_mask [false, false] (loc' := [none, none]) rfl ?_
      exact okj_X9_isSort_14 (0 : Int32) h  H
    · rw [if_neg c2] at H
      refine go_iconst (v := (1 : Int32)) dX9_isSort_9 rfl ?_
      refine go_goto (tgt := 14) dX9_isSort_10 (by decide) ?_
      refine go_mask [false, false] (loc' := [none, none]) rfl ?_
      exact okj_X9_isSort_14 (1 : Int32) h  H
/-! X5_at -/
def j_X5_at_17  (s0 : Int32) (h : Hp) : Option Int32 :=
  some s0
set_option maxRecDepth 20000 in
theorem okj_X5_at_17 {r : Int32}  (s0 : Int32) (h : Hp) (H : j_X5_at_17 s0 h = some r) : Go M_X5_at (some (aI r), h) 17 [none, none] [aI s0] h := by
  unfold j_X5_at_17 at H
  obtain rfl := Option.some.inj H
  exact go_ireturn dX5_at_17 (tyI_int rfl)
def m_X5_at (v0 : Nat) (v1 : Int32) (h : Hp) : Option Int32 :=
  if v1 < 0 then j_X5_at_17 (0 : Int32) h else (alen h v0 20).bind fun x1 => if x1 ≤ v1 then j_X5_at_17 (0 : Int32) h else (alI h v0 v1).bind fun x2 => j_X5_at_17 x2 h
set_option maxRecDepth 20000 in
theorem ok_X5_at {r : Int32} {v0 : Nat} {v1 : Int32} {h : Hp} (H : m_X5_at v0 v1 h = some r) : Ev M_X5_at [aA v0, aI v1] h (some (aI r), h) := by
  show Go M_X5_at (some (aI r), h) 0 [some (aA v0), some (aI v1)] [] h
  unfold m_X5_at at H
  refine go_iloadn dX5_at_0 rfl ?_
  refine go_if_lt (tgt := 16) dX5_at_1 (by decide) (fun c1 => ?_) (fun c1 => ?_)
  · replace H := (gm_ite H).1 c1
    refine go_iconst (v := (0 : Int32)) dX5_at_16 rfl ?_
    refine go_mask [false, false] (loc' := [none, none]) rfl ?_
    exact okj_X5_at_17 (0 : Int32) h  H
  · replace H := (gm_ite H).2 c1
    refine go_iloadn dX5_at_4 rfl ?_
    refine go_aloadn dX5_at_5 rfl ?_
    refine gm_alen (by decide) dX5_at_6 H (fun x1 H => ?_)
    refine go_icmp_ge (tgt := 16) dX5_at_7 (by decide) (fun c2 => ?_) (fun c2 => ?_)
    · replace H := (gm_ite H).1 c2
      refine go_iconst (v := (0 : Int32)) dX5_at_16 rfl ?_
      refine go_mask [false, false] (loc' := [none, none]) rfl ?_
      exact okj_X5_at_17 (0 : Int32) h  H
    · replace H := (gm_ite H).2 c2
      refine go_aloadn dX5_at_10 rfl ?_
      refine go_iloadn dX5_at_11 rfl ?_
      refine gm_iald dX5_at_12 H (fun x2 H => ?_)
      refine go_goto (tgt := 17) dX5_at_13 (by decide) ?_
      refine go_mask [false, false] (loc' := [none, none]) rfl ?_
      exact okj_X5_at_17 x2 h  H
/-! X9_howMany -/
def m_X9_howMany (v0 : Nat) (v1 : Int32) (h : Hp) : Option Int32 :=
  (gfR h v0 9 3).bind fun x1 => (m_X5_at x1 v1 h).bind fun x2 => some x2
set_option maxRecDepth 20000 in
theorem ok_X9_howMany {r : Int32} {v0 : Nat} {v1 : Int32} {h : Hp} (H : m_X9_howMany v0 v1 h = some r) : Ev M_X9_howMany [aA v0, aI v1] h (some (aI r), h) := by
  show Go M_X9_howMany (some (aI r), h) 0 [some (aA v0), some (aI v1)] [] h
  unfold m_X9_howMany at H
  refine go_aloadn dX9_howMany_0 rfl ?_
  refine gm_getR fd_X9_25 dX9_howMany_1 H (fun x1 H => ?_)
  refine go_iloadn dX9_howMany_4 rfl ?_
  obtain ⟨x2, ex2, H⟩ := bind_some H
  refine go_callS (vs := [aA x1, aI v1]) (stk := []) (o1 := (some (aI x2), h)) mk_X5_at ss_X9_howMany_69 dX9_howMany_5 rfl rfl (Nat.le_of_ble_eq_true rfl) (Nat.le_of_ble_eq_true rfl) (ok_X5_at ex2) (show Go M_X9_howMany (some (aI r), h) 8 [some (aA v0), some (aI v1)] [aI x2] h from ?_)
  obtain rfl := Option.some.inj H
  exact go_ireturn dX9_howMany_8 (tyI_int rfl)
/-! X9_isTold -/
def j_X9_isTold_23  (s0 : Int32) (h : Hp) : Option Int32 :=
  (zb s0).bind fun x1 => some x1
set_option maxRecDepth 20000 in
theorem okj_X9_isTold_23 {r : Int32}  (s0 : Int32) (h : Hp) (H : j_X9_isTold_23 s0 h = some r) : Go M_X9_isTold (some (aI r), h) 23 [none, none, none] [aI s0] h := by
  unfold j_X9_isTold_23 at H
  obtain ⟨hz, H⟩ := gm_zb H
  obtain rfl := Option.some.inj H
  exact go_ireturn (x := s0) dX9_isTold_23 (tyI_bool rfl hz)
def m_X9_isTold (v0 : Nat) (v1 : Int32) (v2 : Int32) (h : Hp) : Option Int32 :=
  if v2 < 0 then j_X9_isTold_23 (0 : Int32) h else (rc h v0 9 (m_X9_howMany v0 v1 h)).bind fun x1 => j_X9_isTold_23 (if x1 ≤ v2 then (0 : Int32) else (if (2 : Int32) ≤ v2 then (0 : Int32) else (1 : Int32))) h
set_option maxRecDepth 20000 in
theorem ok_X9_isTold {r : Int32} {v0 : Nat} {v1 : Int32} {v2 : Int32} {h : Hp} (H : m_X9_isTold v0 v1 v2 h = some r) : Ev M_X9_isTold [aA v0, aI v1, aI v2] h (some (aI r), h) := by
  show Go M_X9_isTold (some (aI r), h) 0 [some (aA v0), some (aI v1), some (aI v2)] [] h
  unfold m_X9_isTold at H
  refine go_iloadn dX9_isTold_0 rfl ?_
  refine go_if_lt (tgt := 22) dX9_isTold_1 (by decide) (fun c1 => ?_) (fun c1 => ?_)
  · replace H := (gm_ite H).1 c1
    refine go_iconst (v := (0 : Int32)) dX9_isTold_22 rfl ?_
    refine go_mask [false, false, false] (loc' := [none, none, none]) rfl ?_
    exact okj_X9_isTold_23 (0 : Int32) h  H
  · replace H := (gm_ite H).2 c1
    refine go_iloadn dX9_isTold_4 rfl ?_
    refine go_aloadn dX9_isTold_5 rfl ?_
    refine go_iloadn dX9_isTold_6 rfl ?_
    obtain ⟨c2, x1, ex1, H⟩ := gm_rc H
    refine go_callV (vs := [aI v1]) (stk := [aI v2]) (o1 := (some (aI x1), h)) mk_X9_howMany sv_X9_isTold_73 cl_X9 rfl dX9_isTold_7 c2 rfl rfl (Nat.le_of_ble_eq_true rfl) (Nat.le_of_ble_eq_true rfl) (ok_X9_howMany ex1) (show Go M_X9_isTold (some (aI r), h) 10 [some (aA v0), some (aI v1), some (aI v2)] [aI x1, aI v2] h from ?_)
    refine go_icmp_ge (tgt := 22) dX9_isTold_10 (by decide) (fun c3 => ?_) (fun c3 => ?_)
    · rw [if_pos c3] at H
      refine go_iconst (v := (0 : Int32)) dX9_isTold_22 rfl ?_
      refine go_mask [false, false, false] (loc' := [none, none, none]) rfl ?_
      exact okj_X9_isTold_23 (0 : Int32) h  H
    · rw [if_neg c3] at H
      refine go_iloadn dX9_isTold_13 rfl ?_
      refine go_iconst (v := (2 : Int32)) dX9_isTold_14 rfl ?_
      refine go_icmp_ge (tgt := 22) dX9_isTold_15 (by decide) (fun c4 => ?_) (fun c4 => ?_)
      · rw [if_pos c4] at H
        refine go_iconst (v := (0 : Int32)) dX9_isTold_22 rfl ?_
        refine go_mask [false, false, false] (loc' := [none, none, none]) rfl ?_
        exact okj_X9_isTold_23 (0 : Int32) h  H
      · rw [if_neg c4] at H
        refine go_iconst (v := (1 : Int32)) dX9_isTold_18 rfl ?_
        refine go_goto (tgt := 23) dX9_isTold_19 (by decide) ?_
        refine go_mask [false, false, false] (loc' := [none, none, none]) rfl ?_
        exact okj_X9_isTold_23 (1 : Int32) h  H
/-! X9_placeFor -/
def j_X9_placeFor_48  (s0 : Int32) (h : Hp) : Option Int32 :=
  some s0
set_option maxRecDepth 20000 in
theorem okj_X9_placeFor_48 {r : Int32}  (s0 : Int32) (h : Hp) (H : j_X9_placeFor_48 s0 h = some r) : Go M_X9_placeFor (some (aI r), h) 48 [none, none, none] [aI s0] h := by
  unfold j_X9_placeFor_48 at H
  obtain rfl := Option.some.inj H
  exact go_ireturn dX9_placeFor_48 (tyI_int rfl)
def j_X9_placeFor_33  (s0 : Int32) (h : Hp) : Option Int32 :=
  some s0
set_option maxRecDepth 20000 in
theorem okj_X9_placeFor_33 {r : Int32}  (s0 : Int32) (h : Hp) (H : j_X9_placeFor_33 s0 h = some r) : Go M_X9_placeFor (some (aI r), h) 33 [none, none, none] [aI s0] h := by
  unfold j_X9_placeFor_33 at H
  obtain rfl := Option.some.inj H
  exact go_ireturn dX9_placeFor_33 (tyI_int rfl)
def m_X9_placeFor (v0 : Nat) (v1 : Int32) (v2 : Int32) (h : Hp) : Option Int32 :=
  (rc h v0 9 (m_X9_isSort v0 v1 h)).bind fun x1 => if ¬ x1 = 0 then (if ¬ v2 = (-1 : Int32) then ((rc h v0 9 (m_X9_isTold v0 v1 v2 h)).bind fun x2 => j_X9_placeFor_48 (if x2 = 0 then (-1 : Int32) else v2) h) else (rc h v0 9 (m_X9_howMany v0 v1 h)).bind fun x3 => if (2 : Int32) ≤ x3 then j_X9_placeFor_33 (-1 : Int32) h else (rc h v0 9 (m_X9_howMany v0 v1 h)).bind fun x4 => j_X9_placeFor_33 x4 h) else some (-1 : Int32)
set_option maxRecDepth 20000 in
theorem ok_X9_placeFor {r : Int32} {v0 : Nat} {v1 : Int32} {v2 : Int32} {h : Hp} (H : m_X9_placeFor v0 v1 v2 h = some r) : Ev M_X9_placeFor [aA v0, aI v1, aI v2] h (some (aI r), h) := by
  show Go M_X9_placeFor (some (aI r), h) 0 [some (aA v0), some (aI v1), some (aI v2)] [] h
  unfold m_X9_placeFor at H
  refine go_aloadn dX9_placeFor_0 rfl ?_
  refine go_iloadn dX9_placeFor_1 rfl ?_
  obtain ⟨c1, x1, ex1, H⟩ := gm_rc H
  refine go_callV (vs := [aI v1]) (stk := []) (o1 := (some (aI x1), h)) mk_X9_isSort sv_X9_placeFor_81 cl_X9 rfl dX9_placeFor_2 c1 rfl rfl (Nat.le_of_ble_eq_true rfl) (Nat.le_of_ble_eq_true rfl) (ok_X9_isSort ex1) (show Go M_X9_placeFor (some (aI r), h) 5 [some (aA v0), some (aI v1), some (aI v2)] [aI x1] h from ?_)
  refine go_if_ne (tgt := 10) dX9_placeFor_5 (by decide) (fun c2 => ?_) (fun c2 => ?_)
  · replace H := (gm_ite H).1 c2
    refine go_iloadn dX9_placeFor_10 rfl ?_
    refine go_iconst (v := (-1 : Int32)) dX9_placeFor_11 rfl ?_
    refine go_icmp_ne (tgt := 34) dX9_placeFor_12 (by decide) (fun c3 => ?_) (fun c3 => ?_)
    · replace H := (gm_ite H).1 c3
      refine go_aloadn dX9_placeFor_34 rfl ?_
      refine go_iloadn dX9_placeFor_35 rfl ?_
      refine go_iloadn dX9_placeFor_36 rfl ?_
      obtain ⟨c4, x2, ex2, H⟩ := gm_rc H
      refine go_callV (vs := [aI v1, aI v2]) (stk := []) (o1 := (some (aI x2), h)) mk_X9_isTold sv_X9_placeFor_77 cl_X9 rfl dX9_placeFor_37 c4 rfl rfl (Nat.le_of_ble_eq_true rfl) (Nat.le_of_ble_eq_true rfl) (ok_X9_isTold ex2) (show Go M_X9_placeFor (some (aI r), h) 40 [some (aA v0), some (aI v1), some (aI v2)] [aI x2] h from ?_)
      refine go_if_eq (tgt := 47) dX9_placeFor_40 (by decide) (fun c5 => ?_) (fun c5 => ?_)
      · rw [if_pos c5] at H
        refine go_iconst (v := (-1 : Int32)) dX9_placeFor_47 rfl ?_
        refine go_mask [false, false, false] (loc' := [none, none, none]) rfl ?_
        exact okj_X9_placeFor_48 (-1 : Int32) h  H
      · rw [if_neg c5] at H
        refine go_iloadn dX9_placeFor_43 rfl ?_
        refine go_goto (tgt := 48) dX9_placeFor_44 (by decide) ?_
        refine go_mask [false, false, false] (loc' := [none, none, none]) rfl ?_
        exact okj_X9_placeFor_48 v2 h  H
    · replace H := (gm_ite H).2 c3
      refine go_aloadn dX9_placeFor_15 rfl ?_
      refine go_iloadn dX9_placeFor_16 rfl ?_
      obtain ⟨c6, x3, ex3, H⟩ := gm_rc H
      refine go_callV (vs := [aI v1]) (stk := []) (o1 := (some (aI x3), h)) mk_X9_howMany sv_X9_placeFor_73 cl_X9 rfl dX9_placeFor_17 c6 rfl rfl (Nat.le_of_ble_eq_true rfl) (Nat.le_of_ble_eq_true rfl) (ok_X9_howMany ex3) (show Go M_X9_placeFor (some (aI r), h) 20 [some (aA v0), some (aI v1), some (aI v2)] [aI x3] h from ?_)
      refine go_iconst (v := (2 : Int32)) dX9_placeFor_20 rfl ?_
      refine go_icmp_ge (tgt := 32) dX9_placeFor_21 (by decide) (fun c7 => ?_) (fun c7 => ?_)
      · replace H := (gm_ite H).1 c7
        refine go_iconst (v := (-1 : Int32)) dX9_placeFor_32 rfl ?_
        refine go_mask [false, false, false] (loc' := [none, none, none]) rfl ?_
        exact okj_X9_placeFor_33 (-1 : Int32) h  H
      · replace H := (gm_ite H).2 c7
        refine go_aloadn dX9_placeFor_24 rfl ?_
        refine go_iloadn dX9_placeFor_25 rfl ?_
        obtain ⟨c8, x4, ex4, H⟩ := gm_rc H
        refine go_callV (vs := [aI v1]) (stk := []) (o1 := (some (aI x4), h)) mk_X9_howMany sv_X9_placeFor_73 cl_X9 rfl dX9_placeFor_26 c8 rfl rfl (Nat.le_of_ble_eq_true rfl) (Nat.le_of_ble_eq_true rfl) (ok_X9_howMany ex4) (show Go M_X9_placeFor (some (aI r), h) 29 [some (aA v0), some (aI v1), some (aI v2)] [aI x4] h from ?_)
        refine go_goto (tgt := 33) dX9_placeFor_29 (by decide) ?_
        refine go_mask [false, false, false] (loc' := [none, none, none]) rfl ?_
        exact okj_X9_placeFor_33 x4 h  H
  · replace H := (gm_ite H).2 c2
    refine go_iconst (v := (-1 : Int32)) dX9_placeFor_8 rfl ?_
    obtain rfl := Option.some.inj H
    exact go_ireturn dX9_placeFor_9 (tyI_int rfl)
/-! X5_set -/
def m_X5_set (v0 : Nat) (v1 : Int32) (v2 : Int32) (h : Hp) : Option Hp :=
  if v1 < 0 then (some h) else (alen h v0 20).bind fun x1 => if x1 ≤ v1 then (some h) else (asI h v0 v1 v2).bind fun hh1 => some hh1
set_option maxRecDepth 20000 in
theorem ok_X5_set {r : Hp} {v0 : Nat} {v1 : Int32} {v2 : Int32} {h : Hp} (H : m_X5_set v0 v1 v2 h = some r) : Ev M_X5_set [aA v0, aI v1, aI v2] h (none, r) := by
  show Go M_X5_set (none, r) 0 [some (aA v0), some (aI v1), some (aI v2)] [] h
  unfold m_X5_set at H
  refine go_iloadn dX5_set_0 rfl ?_
  refine go_if_lt (tgt := 14) dX5_set_1 (by decide) (fun c1 => ?_) (fun c1 => ?_)
  · replace H := (gm_ite H).1 c1
    obtain rfl := Option.some.inj H
    exact go_return dX5_set_14 rfl
  · replace H := (gm_ite H).2 c1
    refine go_iloadn dX5_set_4 rfl ?_
    refine go_aloadn dX5_set_5 rfl ?_
    refine gm_alen (by decide) dX5_set_6 H (fun x1 H => ?_)
    refine go_icmp_ge (tgt := 14) dX5_set_7 (by decide) (fun c2 => ?_) (fun c2 => ?_)
    · replace H := (gm_ite H).1 c2
      obtain rfl := Option.some.inj H
      exact go_return dX5_set_14 rfl
    · replace H := (gm_ite H).2 c2
      refine go_aloadn dX5_set_10 rfl ?_
      refine go_iloadn dX5_set_11 rfl ?_
      refine go_iloadn dX5_set_12 rfl ?_
      refine gm_iast dX5_set_13 H (fun hh1 H => ?_)
      obtain rfl := Option.some.inj H
      exact go_return dX5_set_14 rfl
/-! X0_clear -/
def b_X0_clear_17 (v0 : Nat) (k : Int32 → Hp → Option Hp) (v1 : Int32) (h : Hp) : Option Hp :=
  if (4 : Int32) ≤ v1 then (some h) else (gfR h v0 1 3).bind fun x1 => (m_X5_set x1 v1 (0 : Int32) h).bind fun x2 => k (v1 + (1 : Int32)) x2
set_option maxRecDepth 20000 in
theorem okb_X0_clear_17 {r : Hp} (v0 : Nat) (k : Int32 → Hp → Option Hp) (v1 : Int32) (h : Hp) (Hk : ∀ (v1q : Int32) (hq : Hp), k v1q hq = some r → Go M_X0_clear (none, r) 17 [some (aA v0), some (aI v1q)] [] hq) (H : b_X0_clear_17 v0 k v1 h = some r) : Go M_X0_clear (none, r) 17 [some (aA v0), some (aI v1)] [] h := by
  unfold b_X0_clear_17 at H
  refine go_iloadn dX0_clear_17 rfl ?_
  refine go_iconst (v := (4 : Int32)) dX0_clear_18 rfl ?_
  refine go_icmp_ge (tgt := 37) dX0_clear_19 (by decide) (fun c1 => ?_) (fun c1 => ?_)
  · replace H := (gm_ite H).1 c1
    obtain rfl := Option.some.inj H
    exact go_return dX0_clear_37 rfl
  · replace H := (gm_ite H).2 c1
    refine go_aloadn dX0_clear_22 rfl ?_
    refine gm_getR fd_X0_21 dX0_clear_23 H (fun x1 H => ?_)
    refine go_iloadn dX0_clear_26 rfl ?_
    refine go_iconst (v := (0 : Int32)) dX0_clear_27 rfl ?_
    obtain ⟨x2, ex2, H⟩ := bind_some H
    refine go_callS (vs := [aA x1, aI v1, aI (0 : Int32)]) (stk := []) (o1 := (none, x2)) mk_X5_set ss_X0_clear_50 dX0_clear_28 rfl rfl (Nat.le_of_ble_eq_true rfl) (Nat.le_of_ble_eq_true rfl) (ok_X5_set ex2) (show Go M_X0_clear (none, r) 31 [some (aA v0), some (aI v1)] [] x2 from ?_)
    refine go_iinc (v := (v1 + (1 : Int32))) (loc2 := [some (aA v0), some (aI (v1 + (1 : Int32)))]) dX0_clear_31 rfl rfl (by decide) rfl ?_
    refine go_goto (tgt := 17) dX0_clear_34 (by decide) ?_
    exact Hk (v1 + (1 : Int32)) x2 H
def l_X0_clear_17 (v0 : Nat) (v1 : Int32) (h : Hp) : Option Hp := loopK FUEL (fun (k : Int32 × Hp → Option Hp) (s : Int32 × Hp) => b_X0_clear_17 v0 (fun v1q hq => k (v1q, hq)) s.1 s.2) (v1, h)
theorem okl_X0_clear_17 {r : Hp} (v0 : Nat) (v1 : Int32) (h : Hp) (H : l_X0_clear_17 v0 v1 h = some r) : Go M_X0_clear (none, r) 17 [some (aA v0), some (aI v1)] [] h := by
  unfold l_X0_clear_17 at H
  exact go_loop (σ := Int32 × Hp) (body := (fun (k : Int32 × Hp → Option Hp) (s : Int32 × Hp) => b_X0_clear_17 v0 (fun v1q hq => k (v1q, hq)) s.1 s.2)) (fun s => [some (aA v0), some (aI s.1)]) (fun s => s.2) (fun k s Hk H => okb_X0_clear_17 v0 (fun v1q hq => k (v1q, hq)) s.1 s.2  (fun v1q hq H => Hk (v1q, hq) H) H) FUEL (v1, h) H
def m_X0_clear (v0 : Nat) (h : Hp) : Option Hp :=
  (pfI h v0 1 0 (0 : Int32)).bind fun hh1 => (pfI hh1 v0 1 1 (0 : Int32)).bind fun hh2 => (pfI hh2 v0 1 2 (0 : Int32)).bind fun hh3 => l_X0_clear_17 v0 (0 : Int32) hh3
set_option maxRecDepth 20000 in
theorem ok_X0_clear {r : Hp} {v0 : Nat} {h : Hp} (H : m_X0_clear v0 h = some r) : Ev M_X0_clear [aA v0] h (none, r) := by
  show Go M_X0_clear (none, r) 0 [some (aA v0), none] [] h
  unfold m_X0_clear at H
  refine go_aloadn dX0_clear_0 rfl ?_
  refine go_iconst (v := (0 : Int32)) dX0_clear_1 rfl ?_
  refine gm_putI fd_X0_11 (Or.inl rfl) dX0_clear_2 H (fun hh1 H => ?_)
  refine go_aloadn dX0_clear_5 rfl ?_
  refine go_iconst (v := (0 : Int32)) dX0_clear_6 rfl ?_
  refine gm_putI fd_X0_15 (Or.inl rfl) dX0_clear_7 H (fun hh2 H => ?_)
  refine go_aloadn dX0_clear_10 rfl ?_
  refine go_iconst (v := (0 : Int32)) dX0_clear_11 rfl ?_
  refine gm_putI fd_X0_18 (Or.inl rfl) dX0_clear_12 H (fun hh3 H => ?_)
  refine go_iconst (v := (0 : Int32)) dX0_clear_15 rfl ?_
  refine go_istoren (loc2 := [some (aA v0), some (aI (0 : Int32))]) dX0_clear_16 rfl (by decide) rfl ?_
  exact okl_X0_clear_17 v0 (0 : Int32) hh3 H
/-! X10_rewind -/
def m_X10_rewind (v0 : Nat) (h : Hp) : Option Hp :=
  (pfI h v0 10 3 (0 : Int32)).bind fun hh1 => (pfI hh1 v0 10 4 (0 : Int32)).bind fun hh2 => (pfI hh2 v0 10 2 (0 : Int32)).bind fun hh3 => some hh3
set_option maxRecDepth 20000 in
theorem ok_X10_rewind {r : Hp} {v0 : Nat} {h : Hp} (H : m_X10_rewind v0 h = some r) : Ev M_X10_rewind [aA v0] h (none, r) := by
  show Go M_X10_rewind (none, r) 0 [some (aA v0)] [] h
  unfold m_X10_rewind at H
  refine go_aloadn dX10_rewind_0 rfl ?_
  refine go_iconst (v := (0 : Int32)) dX10_rewind_1 rfl ?_
  refine gm_putI fd_X10_20 (Or.inl rfl) dX10_rewind_2 H (fun hh1 H => ?_)
  refine go_aloadn dX10_rewind_5 rfl ?_
  refine go_iconst (v := (0 : Int32)) dX10_rewind_6 rfl ?_
  refine gm_putI fd_X10_23 (Or.inl rfl) dX10_rewind_7 H (fun hh2 H => ?_)
  refine go_aloadn dX10_rewind_10 rfl ?_
  refine go_iconst (v := (0 : Int32)) dX10_rewind_11 rfl ?_
  refine gm_putI fd_X10_17 (Or.inl rfl) dX10_rewind_12 H (fun hh3 H => ?_)
  obtain rfl := Option.some.inj H
  exact go_return dX10_rewind_15 rfl
/-! X10_byteAt -/
def j_X10_byteAt_23  (s0 : Int32) (h : Hp) : Option Int32 :=
  some s0
set_option maxRecDepth 20000 in
theorem okj_X10_byteAt_23 {r : Int32}  (s0 : Int32) (h : Hp) (H : j_X10_byteAt_23 s0 h = some r) : Go M_X10_byteAt (some (aI r), h) 23 [none, none] [aI s0] h := by
  unfold j_X10_byteAt_23 at H
  obtain rfl := Option.some.inj H
  exact go_ireturn dX10_byteAt_23 (tyI_int rfl)
def m_X10_byteAt (v0 : Nat) (v1 : Int32) (h : Hp) : Option Int32 :=
  if v1 < 0 then j_X10_byteAt_23 (0 : Int32) h else (gfR h v0 10 0).bind fun x1 => (alen h x1 21).bind fun x2 => if x2 ≤ v1 then j_X10_byteAt_23 (0 : Int32) h else (gfR h v0 10 0).bind fun x3 => (alB h x3 v1).bind fun x4 => j_X10_byteAt_23 x4 h
set_option maxRecDepth 20000 in
theorem ok_X10_byteAt {r : Int32} {v0 : Nat} {v1 : Int32} {h : Hp} (H : m_X10_byteAt v0 v1 h = some r) : Ev M_X10_byteAt [aA v0, aI v1] h (some (aI r), h) := by
  show Go M_X10_byteAt (some (aI r), h) 0 [some (aA v0), some (aI v1)] [] h
  unfold m_X10_byteAt at H
  refine go_iloadn dX10_byteAt_0 rfl ?_
  refine go_if_lt (tgt := 22) dX10_byteAt_1 (by decide) (fun c1 => ?_) (fun c1 => ?_)
  · replace H := (gm_ite H).1 c1
    refine go_iconst (v := (0 : Int32)) dX10_byteAt_22 rfl ?_
    refine go_mask [false, false] (loc' := [none, none]) rfl ?_
    exact okj_X10_byteAt_23 (0 : Int32) h  H
  · replace H := (gm_ite H).2 c1
    refine go_iloadn dX10_byteAt_4 rfl ?_
    refine go_aloadn dX10_byteAt_5 rfl ?_
    refine gm_getR fd_X10_9 dX10_byteAt_6 H (fun x1 H => ?_)
    refine gm_alen (by decide) dX10_byteAt_9 H (fun x2 H => ?_)
    refine go_icmp_ge (tgt := 22) dX10_byteAt_10 (by decide) (fun c2 => ?_) (fun c2 => ?_)
    · replace H := (gm_ite H).1 c2
      refine go_iconst (v := (0 : Int32)) dX10_byteAt_22 rfl ?_
      refine go_mask [false, false] (loc' := [none, none]) rfl ?_
      exact okj_X10_byteAt_23 (0 : Int32) h  H
    · replace H := (gm_ite H).2 c2
      refine go_aloadn dX10_byteAt_13 rfl ?_
      refine gm_getR fd_X10_9 dX10_byteAt_14 H (fun x3 H => ?_)
      refine go_iloadn dX10_byteAt_17 rfl ?_
      refine gm_bald dX10_byteAt_18 H (fun x4 H => ?_)
      refine go_goto (tgt := 23) dX10_byteAt_19 (by decide) ?_
      refine go_mask [false, false] (loc' := [none, none]) rfl ?_
      exact okj_X10_byteAt_23 x4 h  H
/-! X10_isBlank -/
def j_X10_isBlank_17  (s0 : Int32) (h : Hp) : Option Int32 :=
  (zb s0).bind fun x1 => some x1
set_option maxRecDepth 20000 in
theorem okj_X10_isBlank_17 {r : Int32}  (s0 : Int32) (h : Hp) (H : j_X10_isBlank_17 s0 h = some r) : Go M_X10_isBlank (some (aI r), h) 17 [none] [aI s0] h := by
  unfold j_X10_isBlank_17 at H
  obtain ⟨hz, H⟩ := gm_zb H
  obtain rfl := Option.some.inj H
  exact go_ireturn (x := s0) dX10_isBlank_17 (tyI_bool rfl hz)
def m_X10_isBlank (v0 : Int32) (h : Hp) : Option Int32 :=
  j_X10_isBlank_17 (if v0 = (10 : Int32) then (1 : Int32) else (if ¬ v0 = (32 : Int32) then (0 : Int32) else (1 : Int32))) h
set_option maxRecDepth 20000 in
theorem ok_X10_isBlank {r : Int32} {v0 : Int32} {h : Hp} (H : m_X10_isBlank v0 h = some r) : Ev M_X10_isBlank [aI v0] h (some (aI r), h) := by
  show Go M_X10_isBlank (some (aI r), h) 0 [some (aI v0)] [] h
  unfold m_X10_isBlank at H
  refine go_iloadn dX10_isBlank_0 rfl ?_
  refine go_bipush (v := (10 : Int32)) dX10_isBlank_1 rfl ?_
  refine go_icmp_eq (tgt := 12) dX10_isBlank_3 (by decide) (fun c1 => ?_) (fun c1 => ?_)
  · rw [if_pos c1] at H
    refine go_iconst (v := (1 : Int32)) dX10_isBlank_12 rfl ?_
    refine go_goto (tgt := 17) dX10_isBlank_13 (by decide) ?_
    refine go_mask [false] (loc' := [none]) rfl ?_
    exact okj_X10_isBlank_17 (1 : Int32) h  H
  · rw [if_neg c1] at H
    refine go_iloadn dX10_isBlank_6 rfl ?_
    refine go_bipush (v := (32 : Int32)) dX10_isBlank_7 rfl ?_
    refine go_icmp_ne (tgt := 16) dX10_isBlank_9 (by decide) (fun c2 => ?_) (fun c2 => ?_)
    · rw [if_pos c2] at H
      refine go_iconst (v := (0 : Int32)) dX10_isBlank_16 rfl ?_
      refine go_mask [false] (loc' := [none]) rfl ?_
      exact okj_X10_isBlank_17 (0 : Int32) h  H
    · rw [if_neg c2] at H
      refine go_iconst (v := (1 : Int32)) dX10_isBlank_12 rfl ?_
      refine go_goto (tgt := 17) dX10_isBlank_13 (by decide) ?_
      refine go_mask [false] (loc' := [none]) rfl ?_
      exact okj_X10_isBlank_17 (1 : Int32) h  H
/-! X10_isLetter -/
def j_X10_isLetter_17  (s0 : Int32) (h : Hp) : Option Int32 :=
  (zb s0).bind fun x1 => some x1
set_option maxRecDepth 20000 in
theorem okj_X10_isLetter_17 {r : Int32}  (s0 : Int32) (h : Hp) (H : j_X10_isLetter_17 s0 h = some r) : Go M_X10_isLetter (some (aI r), h) 17 [none] [aI s0] h := by
  unfold j_X10_isLetter_17 at H
  obtain ⟨hz, H⟩ := gm_zb H
  obtain rfl := Option.some.inj H
  exact go_ireturn (x := s0) dX10_isLetter_17 (tyI_bool rfl hz)
def m_X10_isLetter (v0 : Int32) (h : Hp) : Option Int32 :=
  j_X10_isLetter_17 (if v0 < (97 : Int32) then (0 : Int32) else (if (122 : Int32) < v0 then (0 : Int32) else (1 : Int32))) h
set_option maxRecDepth 20000 in
theorem ok_X10_isLetter {r : Int32} {v0 : Int32} {h : Hp} (H : m_X10_isLetter v0 h = some r) : Ev M_X10_isLetter [aI v0] h (some (aI r), h) := by
  show Go M_X10_isLetter (some (aI r), h) 0 [some (aI v0)] [] h
  unfold m_X10_isLetter at H
  refine go_iloadn dX10_isLetter_0 rfl ?_
  refine go_bipush (v := (97 : Int32)) dX10_isLetter_1 rfl ?_
  refine go_icmp_lt (tgt := 16) dX10_isLetter_3 (by decide) (fun c1 => ?_) (fun c1 => ?_)
  · rw [if_pos c1] at H
    refine go_iconst (v := (0 : Int32)) dX10_isLetter_16 rfl ?_
    refine go_mask [false] (loc' := [none]) rfl ?_
    exact okj_X10_isLetter_17 (0 : Int32) h  H
  · rw [if_neg c1] at H
    refine go_iloadn dX10_isLetter_6 rfl ?_
    refine go_bipush (v := (122 : Int32)) dX10_isLetter_7 rfl ?_
    refine go_icmp_gt (tgt := 16) dX10_isLetter_9 (by decide) (fun c2 => ?_) (fun c2 => ?_)
    · rw [if_pos c2] at H
      refine go_iconst (v := (0 : Int32)) dX10_isLetter_16 rfl ?_
      refine go_mask [false] (loc' := [none]) rfl ?_
      exact okj_X10_isLetter_17 (0 : Int32) h  H
    · rw [if_neg c2] at H
      refine go_iconst (v := (1 : Int32)) dX10_isLetter_12 rfl ?_
      refine go_goto (tgt := 17) dX10_isLetter_13 (by decide) ?_
      refine go_mask [false] (loc' := [none]) rfl ?_
      exact okj_X10_isLetter_17 (1 : Int32) h  H
/-! X10_isDigit -/
def j_X10_isDigit_17  (s0 : Int32) (h : Hp) : Option Int32 :=
  (zb s0).bind fun x1 => some x1
set_option maxRecDepth 20000 in
theorem okj_X10_isDigit_17 {r : Int32}  (s0 : Int32) (h : Hp) (H : j_X10_isDigit_17 s0 h = some r) : Go M_X10_isDigit (some (aI r), h) 17 [none] [aI s0] h := by
  unfold j_X10_isDigit_17 at H
  obtain ⟨hz, H⟩ := gm_zb H
  obtain rfl := Option.some.inj H
  exact go_ireturn (x := s0) dX10_isDigit_17 (tyI_bool rfl hz)
def m_X10_isDigit (v0 : Int32) (h : Hp) : Option Int32 :=
  j_X10_isDigit_17 (if v0 < (48 : Int32) then (0 : Int32) else (if (57 : Int32) < v0 then (0 : Int32) else (1 : Int32))) h
set_option maxRecDepth 20000 in
theorem ok_X10_isDigit {r : Int32} {v0 : Int32} {h : Hp} (H : m_X10_isDigit v0 h = some r) : Ev M_X10_isDigit [aI v0] h (some (aI r), h) := by
  show Go M_X10_isDigit (some (aI r), h) 0 [some (aI v0)] [] h
  unfold m_X10_isDigit at H
  refine go_iloadn dX10_isDigit_0 rfl ?_
  refine go_bipush (v := (48 : Int32)) dX10_isDigit_1 rfl ?_
  refine go_icmp_lt (tgt := 16) dX10_isDigit_3 (by decide) (fun c1 => ?_) (fun c1 => ?_)
  · rw [if_pos c1] at H
    refine go_iconst (v := (0 : Int32)) dX10_isDigit_16 rfl ?_
    refine go_mask [false] (loc' := [none]) rfl ?_
    exact okj_X10_isDigit_17 (0 : Int32) h  H
  · rw [if_neg c1] at H
    refine go_iloadn dX10_isDigit_6 rfl ?_
    refine go_bipush (v := (57 : Int32)) dX10_isDigit_7 rfl ?_
    refine go_icmp_gt (tgt := 16) dX10_isDigit_9 (by decide) (fun c2 => ?_) (fun c2 => ?_)
    · rw [if_pos c2] at H
      refine go_iconst (v := (0 : Int32)) dX10_isDigit_16 rfl ?_
      refine go_mask [false] (loc' := [none]) rfl ?_
      exact okj_X10_isDigit_17 (0 : Int32) h  H
    · rw [if_neg c2] at H
      refine go_iconst (v := (1 : Int32)) dX10_isDigit_12 rfl ?_
      refine go_goto (tgt := 17) dX10_isDigit_13 (by decide) ?_
      refine go_mask [false] (loc' := [none]) rfl ?_
      exact okj_X10_isDigit_17 (1 : Int32) h  H
/-! X10_next -/
def b_X10_next_8 (v0 : Nat) (K46 : Hp → Option Hp) (k : Hp → Option Hp)  (h : Hp) : Option Hp :=
  (gfI h v0 10 3).bind fun x1 => (gfI h v0 10 1).bind fun x2 => if x2 ≤ x1 then K46 h else (gfI h v0 10 3).bind fun x3 => (rc h v0 10 (m_X10_byteAt v0 x3 h)).bind fun x4 => (m_X10_isBlank x4 h).bind fun x5 => if x5 = 0 then K46 h else (gfI h v0 10 3).bind fun x6 => (pfI h v0 10 3 (x6 + (1 : Int32))).bind fun hh1 => k hh1
set_option maxRecDepth 20000 in
theorem okb_X10_next_8 {r : Hp} (v0 : Nat) (K46 : Hp → Option Hp) (k : Hp → Option Hp)  (h : Hp) (HK46 : ∀   (hq : Hp), K46 hq = some r → Go M_X10_next (none, r) 46 [some (aA v0)] [] hq) (Hk : ∀  (hq : Hp), k hq = some r → Go M_X10_next (none, r) 8 [some (aA v0)] [] hq) (H : b_X10_next_8 v0 K46 k h = some r) : Go M_X10_next (none, r) 8 [some (aA v0)] [] h := by
  unfold b_X10_next_8 at H
  refine go_aloadn dX10_next_8 rfl ?_
  refine gm_getI fd_X10_20 dX10_next_9 H (fun x1 H => ?_)
  refine go_aloadn dX10_next_12 rfl ?_
  refine gm_getI fd_X10_13 dX10_next_13 H (fun x2 H => ?_)
  refine go_icmp_ge (tgt := 46) dX10_next_16 (by decide) (fun c1 => ?_) (fun c1 => ?_)
  · replace H := (gm_ite H).1 c1
    exact HK46 h H
  · replace H := (gm_ite H).2 c1
    refine go_aloadn dX10_next_19 rfl ?_
    refine go_aloadn dX10_next_20 rfl ?_
    refine gm_getI fd_X10_20 dX10_next_21 H (fun x3 H => ?_)
    obtain ⟨c2, x4, ex4, H⟩ := gm_rc H
    refine go_callV (vs := [aI x3]) (stk := []) (o1 := (some (aI x4), h)) mk_X10_byteAt sv_X10_next_38 cl_X10 rfl dX10_next_24 c2 rfl rfl (Nat.le_of_ble_eq_true rfl) (Nat.le_of_ble_eq_true rfl) (ok_X10_byteAt ex4) (show Go M_X10_next (none, r) 27 [some (aA v0)] [aI x4] h from ?_)
    obtain ⟨x5, ex5, H⟩ := bind_some H
    refine go_callS (vs := [aI x4]) (stk := []) (o1 := (some (aI x5), h)) mk_X10_isBlank ss_X10_next_42 dX10_next_27 rfl rfl (Nat.le_of_ble_eq_true rfl) (Nat.le_of_ble_eq_true rfl) (ok_X10_isBlank ex5) (show Go M_X10_next (none, r) 30 [some (aA v0)] [aI x5] h from ?_)
    refine go_if_eq (tgt := 46) dX10_next_30 (by decide) (fun c4 => ?_) (fun c4 => ?_)
    · replace H := (gm_ite H).1 c4
      exact HK46 h H
    · replace H := (gm_ite H).2 c4
      refine go_aloadn dX10_next_33 rfl ?_
      refine go_dupA dX10_next_34 ?_
      refine gm_getI fd_X10_20 dX10_next_35 H (fun x6 H => ?_)
      refine go_iconst (v := (1 : Int32)) dX10_next_38 rfl ?_
      refine go_iadd dX10_next_39 ?_
      refine gm_putI fd_X10_20 (Or.inl rfl) dX10_next_40 H (fun hh1 H => ?_)
      refine go_goto (tgt := 8) dX10_next_43 (by decide) ?_
      exact Hk hh1 H
def l_X10_next_8 (v0 : Nat) (K46 : Hp → Option Hp)  (h : Hp) : Option Hp := loopK FUEL (fun (k : Hp → Option Hp) (s : Hp) => b_X10_next_8 v0 K46 (fun hq => k hq) s) h
theorem okl_X10_next_8 {r : Hp} (v0 : Nat) (K46 : Hp → Option Hp)  (h : Hp) (HK46 : ∀   (hq : Hp), K46 hq = some r → Go M_X10_next (none, r) 46 [some (aA v0)] [] hq) (H : l_X10_next_8 v0 K46 h = some r) : Go M_X10_next (none, r) 8 [some (aA v0)] [] h := by
  unfold l_X10_next_8 at H
  exact go_loop (σ := Hp) (body := (fun (k : Hp → Option Hp) (s : Hp) => b_X10_next_8 v0 K46 (fun hq => k hq) s)) (fun s => [some (aA v0)]) (fun s => s) (fun k s Hk H => okb_X10_next_8 v0 K46 (fun hq => k hq) s HK46 (fun hq H => Hk hq H) H) FUEL h H
def j_X10_next_226 (v0 : Nat) (s0 : Nat) (s1 : Int32) (h : Hp) : Option Hp :=
  (pfI h s0 10 2 s1).bind fun hh1 => (gfI hh1 v0 10 4).bind fun x1 => (pfI hh1 v0 10 4 (x1 + (1 : Int32))).bind fun hh2 => some hh2
set_option maxRecDepth 20000 in
theorem okj_X10_next_226 {r : Hp} (v0 : Nat) (s0 : Nat) (s1 : Int32) (h : Hp) (H : j_X10_next_226 v0 s0 s1 h = some r) : Go M_X10_next (none, r) 226 [some (aA v0)] [aI s1, aA s0] h := by
  unfold j_X10_next_226 at H
  refine gm_putI fd_X10_17 (Or.inl rfl) dX10_next_226 H (fun hh1 H => ?_)
  refine go_aloadn dX10_next_229 rfl ?_
  refine go_dupA dX10_next_230 ?_
  refine gm_getI fd_X10_23 dX10_next_231 H (fun x1 H => ?_)
  refine go_iconst (v := (1 : Int32)) dX10_next_234 rfl ?_
  refine go_iadd dX10_next_235 ?_
  refine gm_putI fd_X10_23 (Or.inl rfl) dX10_next_236 H (fun hh2 H => ?_)
  obtain rfl := Option.some.inj H
  exact go_return dX10_next_239 rfl
def b_X10_next_144 (v0 : Nat) (K182 : Hp → Option Hp) (k : Hp → Option Hp)  (h : Hp) : Option Hp :=
  (gfI h v0 10 4).bind fun x1 => (gfI h v0 10 1).bind fun x2 => if x2 ≤ x1 then K182 h else (gfI h v0 10 4).bind fun x3 => (rc h v0 10 (m_X10_byteAt v0 x3 h)).bind fun x4 => (m_X10_isDigit x4 h).bind fun x5 => if x5 = 0 then K182 h else (gfI h v0 10 4).bind fun x6 => (pfI h v0 10 4 (x6 + (1 : Int32))).bind fun hh1 => k hh1
set_option maxRecDepth 20000 in
theorem okb_X10_next_144 {r : Hp} (v0 : Nat) (K182 : Hp → Option Hp) (k : Hp → Option Hp)  (h : Hp) (HK182 : ∀   (hq : Hp), K182 hq = some r → Go M_X10_next (none, r) 182 [some (aA v0)] [] hq) (Hk : ∀  (hq : Hp), k hq = some r → Go M_X10_next (none, r) 144 [some (aA v0)] [] hq) (H : b_X10_next_144 v0 K182 k h = some r) : Go M_X10_next (none, r) 144 [some (aA v0)] [] h := by
  unfold b_X10_next_144 at H
  refine go_aloadn dX10_next_144 rfl ?_
  refine gm_getI fd_X10_23 dX10_next_145 H (fun x1 H => ?_)
  refine go_aloadn dX10_next_148 rfl ?_
  refine gm_getI fd_X10_13 dX10_next_149 H (fun x2 H => ?_)
  refine go_icmp_ge (tgt := 182) dX10_next_152 (by decide) (fun c1 => ?_) (fun c1 => ?_)
  · replace H := (gm_ite H).1 c1
    exact HK182 h H
  · replace H := (gm_ite H).2 c1
    refine go_aloadn dX10_next_155 rfl ?_
    refine go_aloadn dX10_next_156 rfl ?_
    refine gm_getI fd_X10_23 dX10_next_157 H (fun x3 H => ?_)
    obtain ⟨c2, x4, ex4, H⟩ := gm_rc H
    refine go_callV (vs := [aI x3]) (stk := []) (o1 := (some (aI x4), h)) mk_X10_byteAt sv_X10_next_38 cl_X10 rfl dX10_next_160 c2 rfl rfl (Nat.le_of_ble_eq_true rfl) (Nat.le_of_ble_eq_true rfl) (ok_X10_byteAt ex4) (show Go M_X10_next (none, r) 163 [some (aA v0)] [aI x4] h from ?_)
    obtain ⟨x5, ex5, H⟩ := bind_some H
    refine go_callS (vs := [aI x4]) (stk := []) (o1 := (some (aI x5), h)) mk_X10_isDigit ss_X10_next_49 dX10_next_163 rfl rfl (Nat.le_of_ble_eq_true rfl) (Nat.le_of_ble_eq_true rfl) (ok_X10_isDigit ex5) (show Go M_X10_next (none, r) 166 [some (aA v0)] [aI x5] h from ?_)
    refine go_if_eq (tgt := 182) dX10_next_166 (by decide) (fun c4 => ?_) (fun c4 => ?_)
    · replace H := (gm_ite H).1 c4
      exact HK182 h H
    · replace H := (gm_ite H).2 c4
      refine go_aloadn dX10_next_169 rfl ?_
      refine go_dupA dX10_next_170 ?_
      refine gm_getI fd_X10_23 dX10_next_171 H (fun x6 H => ?_)
      refine go_iconst (v := (1 : Int32)) dX10_next_174 rfl ?_
      refine go_iadd dX10_next_175 ?_
      refine gm_putI fd_X10_23 (Or.inl rfl) dX10_next_176 H (fun hh1 H => ?_)
      refine go_goto (tgt := 144) dX10_next_179 (by decide) ?_
      exact Hk hh1 H
def l_X10_next_144 (v0 : Nat) (K182 : Hp → Option Hp)  (h : Hp) : Option Hp := loopK FUEL (fun (k : Hp → Option Hp) (s : Hp) => b_X10_next_144 v0 K182 (fun hq => k hq) s) h
theorem okl_X10_next_144 {r : Hp} (v0 : Nat) (K182 : Hp → Option Hp)  (h : Hp) (HK182 : ∀   (hq : Hp), K182 hq = some r → Go M_X10_next (none, r) 182 [some (aA v0)] [] hq) (H : l_X10_next_144 v0 K182 h = some r) : Go M_X10_next (none, r) 144 [some (aA v0)] [] h := by
  unfold l_X10_next_144 at H
  exact go_loop (σ := Hp) (body := (fun (k : Hp → Option Hp) (s : Hp) => b_X10_next_144 v0 K182 (fun hq => k hq) s)) (fun s => [some (aA v0)]) (fun s => s) (fun k s Hk H => okb_X10_next_144 v0 K182 (fun hq => k hq) s HK182 (fun hq H => Hk hq H) H) FUEL h H
def j_X10_next_201  (s0 : Nat) (s1 : Int32) (h : Hp) : Option Hp :=
  (pfI h s0 10 2 s1).bind fun hh1 => some hh1
set_option maxRecDepth 20000 in
theorem okj_X10_next_201 {r : Hp}  (s0 : Nat) (s1 : Int32) (h : Hp) (H : j_X10_next_201 s0 s1 h = some r) : Go M_X10_next (none, r) 201 [none] [aI s1, aA s0] h := by
  unfold j_X10_next_201 at H
  refine gm_putI fd_X10_17 (Or.inl rfl) dX10_next_201 H (fun hh1 H => ?_)
  refine go_goto (tgt := 239) dX10_next_204 (by decide) ?_
  obtain rfl := Option.some.inj H
  exact go_return dX10_next_239 rfl
def j_X10_next_182 (v0 : Nat)  (h : Hp) : Option Hp :=
  (gfI h v0 10 4).bind fun x1 => (gfI h v0 10 3).bind fun x2 => j_X10_next_201 v0 (if (2 : Int32) < (x1 - x2) then (4 : Int32) else (2 : Int32)) h
set_option maxRecDepth 20000 in
theorem okj_X10_next_182 {r : Hp} (v0 : Nat)  (h : Hp) (H : j_X10_next_182 v0 h = some r) : Go M_X10_next (none, r) 182 [some (aA v0)] [] h := by
  unfold j_X10_next_182 at H
  refine go_aloadn dX10_next_182 rfl ?_
  refine go_aloadn dX10_next_183 rfl ?_
  refine gm_getI fd_X10_23 dX10_next_184 H (fun x1 H => ?_)
  refine go_aloadn dX10_next_187 rfl ?_
  refine gm_getI fd_X10_20 dX10_next_188 H (fun x2 H => ?_)
  refine go_isub dX10_next_191 ?_
  refine go_iconst (v := (2 : Int32)) dX10_next_192 rfl ?_
  refine go_icmp_gt (tgt := 200) dX10_next_193 (by decide) (fun c1 => ?_) (fun c1 => ?_)
  · rw [if_pos c1] at H
    refine go_iconst (v := (4 : Int32)) dX10_next_200 rfl ?_
    refine go_mask [false] (loc' := [none]) rfl ?_
    exact okj_X10_next_201 v0 (4 : Int32) h  H
  · rw [if_neg c1] at H
    refine go_iconst (v := (2 : Int32)) dX10_next_196 rfl ?_
    refine go_goto (tgt := 201) dX10_next_197 (by decide) ?_
    refine go_mask [false] (loc' := [none]) rfl ?_
    exact okj_X10_next_201 v0 (2 : Int32) h  H
def b_X10_next_92 (v0 : Nat) (k : Hp → Option Hp)  (h : Hp) : Option Hp :=
  (gfI h v0 10 4).bind fun x1 => (gfI h v0 10 1).bind fun x2 => if x2 ≤ x1 then (some h) else (gfI h v0 10 4).bind fun x3 => (rc h v0 10 (m_X10_byteAt v0 x3 h)).bind fun x4 => (m_X10_isLetter x4 h).bind fun x5 => if x5 = 0 then (some h) else (gfI h v0 10 4).bind fun x6 => (pfI h v0 10 4 (x6 + (1 : Int32))).bind fun hh1 => k hh1
set_option maxRecDepth 20000 in
theorem okb_X10_next_92 {r : Hp} (v0 : Nat) (k : Hp → Option Hp)  (h : Hp) (Hk : ∀  (hq : Hp), k hq = some r → Go M_X10_next (none, r) 92 [some (aA v0)] [] hq) (H : b_X10_next_92 v0 k h = some r) : Go M_X10_next (none, r) 92 [some (aA v0)] [] h := by
  unfold b_X10_next_92 at H
  refine go_aloadn dX10_next_92 rfl ?_
  refine gm_getI fd_X10_23 dX10_next_93 H (fun x1 H => ?_)
  refine go_aloadn dX10_next_96 rfl ?_
  refine gm_getI fd_X10_13 dX10_next_97 H (fun x2 H => ?_)
  refine go_icmp_ge (tgt := 239) dX10_next_100 (by decide) (fun c1 => ?_) (fun c1 => ?_)
  · replace H := (gm_ite H).1 c1
    obtain rfl := Option.some.inj H
    exact go_return dX10_next_239 rfl
  · replace H := (gm_ite H).2 c1
    refine go_aloadn dX10_next_103 rfl ?_
    refine go_aloadn dX10_next_104 rfl ?_
    refine gm_getI fd_X10_23 dX10_next_105 H (fun x3 H => ?_)
    obtain ⟨c2, x4, ex4, H⟩ := gm_rc H
    refine go_callV (vs := [aI x3]) (stk := []) (o1 := (some (aI x4), h)) mk_X10_byteAt sv_X10_next_38 cl_X10 rfl dX10_next_108 c2 rfl rfl (Nat.le_of_ble_eq_true rfl) (Nat.le_of_ble_eq_true rfl) (ok_X10_byteAt ex4) (show Go M_X10_next (none, r) 111 [some (aA v0)] [aI x4] h from ?_)
    obtain ⟨x5, ex5, H⟩ := bind_some H
    refine go_callS (vs := [aI x4]) (stk := []) (o1 := (some (aI x5), h)) mk_X10_isLetter ss_X10_next_46 dX10_next_111 rfl rfl (Nat.le_of_ble_eq_true rfl) (Nat.le_of_ble_eq_true rfl) (ok_X10_isLetter ex5) (show Go M_X10_next (none, r) 114 [some (aA v0)] [aI x5] h from ?_)
    refine go_if_eq (tgt := 239) dX10_next_114 (by decide) (fun c4 => ?_) (fun c4 => ?_)
    · replace H := (gm_ite H).1 c4
      obtain rfl := Option.some.inj H
      exact go_return dX10_next_239 rfl
    · replace H := (gm_ite H).2 c4
      refine go_aloadn dX10_next_117 rfl ?_
      refine go_dupA dX10_next_118 ?_
      refine gm_getI fd_X10_23 dX10_next_119 H (fun x6 H => ?_)
      refine go_iconst (v := (1 : Int32)) dX10_next_122 rfl ?_
      refine go_iadd dX10_next_123 ?_
      refine gm_putI fd_X10_23 (Or.inl rfl) dX10_next_124 H (fun hh1 H => ?_)
      refine go_goto (tgt := 92) dX10_next_127 (by decide) ?_
      exact Hk hh1 H
def l_X10_next_92 (v0 : Nat)  (h : Hp) : Option Hp := loopK FUEL (fun (k : Hp → Option Hp) (s : Hp) => b_X10_next_92 v0 (fun hq => k hq) s) h
theorem okl_X10_next_92 {r : Hp} (v0 : Nat)  (h : Hp) (H : l_X10_next_92 v0 h = some r) : Go M_X10_next (none, r) 92 [some (aA v0)] [] h := by
  unfold l_X10_next_92 at H
  exact go_loop (σ := Hp) (body := (fun (k : Hp → Option Hp) (s : Hp) => b_X10_next_92 v0 (fun hq => k hq) s)) (fun s => [some (aA v0)]) (fun s => s) (fun k s Hk H => okb_X10_next_92 v0 (fun hq => k hq) s  (fun hq H => Hk hq H) H) FUEL h H
def j_X10_next_46 (v0 : Nat)  (h : Hp) : Option Hp :=
  (gfI h v0 10 3).bind fun x1 => (pfI h v0 10 4 x1).bind fun hh1 => (gfI hh1 v0 10 3).bind fun x2 => (gfI hh1 v0 10 1).bind fun x3 => if x2 < x3 then ((gfI hh1 v0 10 3).bind fun x4 => (rc hh1 v0 10 (m_X10_byteAt v0 x4 hh1)).bind fun x5 => (m_X10_isLetter x5 hh1).bind fun x6 => if x6 = 0 then ((gfI hh1 v0 10 3).bind fun x7 => (rc hh1 v0 10 (m_X10_byteAt v0 x7 hh1)).bind fun x8 => (m_X10_isDigit x8 hh1).bind fun x9 => if x9 = 0 then ((gfI hh1 v0 10 3).bind fun x10 => (rc hh1 v0 10 (m_X10_byteAt v0 x10 hh1)).bind fun x11 => j_X10_next_226 v0 v0 (if ¬ x11 = (59 : Int32) then (4 : Int32) else (3 : Int32)) hh1) else l_X10_next_144 v0 (fun hz12 => j_X10_next_182 v0 hz12) hh1) else (pfI hh1 v0 10 2 (1 : Int32)).bind fun hh2 => l_X10_next_92 v0 hh2) else (pfI hh1 v0 10 2 (0 : Int32)).bind fun hh3 => some hh3
set_option maxRecDepth 20000 in
theorem okj_X10_next_46 {r : Hp} (v0 : Nat)  (h : Hp) (H : j_X10_next_46 v0 h = some r) : Go M_X10_next (none, r) 46 [some (aA v0)] [] h := by
  unfold j_X10_next_46 at H
  refine go_aloadn dX10_next_46 rfl ?_
  refine go_aloadn dX10_next_47 rfl ?_
  refine gm_getI fd_X10_20 dX10_next_48 H (fun x1 H => ?_)
  refine gm_putI fd_X10_23 (Or.inl rfl) dX10_next_51 H (fun hh1 H => ?_)
  refine go_aloadn dX10_next_54 rfl ?_
  refine gm_getI fd_X10_20 dX10_next_55 H (fun x2 H => ?_)
  refine go_aloadn dX10_next_58 rfl ?_
  refine gm_getI fd_X10_13 dX10_next_59 H (fun x3 H => ?_)
  refine go_icmp_lt (tgt := 73) dX10_next_62 (by decide) (fun c1 => ?_) (fun c1 => ?_)
  · replace H := (gm_ite H).1 c1
    refine go_aloadn dX10_next_73 rfl ?_
    refine go_aloadn dX10_next_74 rfl ?_
    refine gm_getI fd_X10_20 dX10_next_75 H (fun x4 H => ?_)
    obtain ⟨c2, x5, ex5, H⟩ := gm_rc H
    refine go_callV (vs := [aI x4]) (stk := []) (o1 := (some (aI x5), hh1)) mk_X10_byteAt sv_X10_next_38 cl_X10 rfl dX10_next_78 c2 rfl rfl (Nat.le_of_ble_eq_true rfl) (Nat.le_of_ble_eq_true rfl) (ok_X10_byteAt ex5) (show Go M_X10_next (none, r) 81 [some (aA v0)] [aI x5] hh1 from ?_)
    obtain ⟨x6, ex6, H⟩ := bind_some H
    refine go_callS (vs := [aI x5]) (stk := []) (o1 := (some (aI x6), hh1)) mk_X10_isLetter ss_X10_next_46 dX10_next_81 rfl rfl (Nat.le_of_ble_eq_true rfl) (Nat.le_of_ble_eq_true rfl) (ok_X10_isLetter ex6) (show Go M_X10_next (none, r) 84 [some (aA v0)] [aI x6] hh1 from ?_)
    refine go_if_eq (tgt := 130) dX10_next_84 (by decide) (fun c4 => ?_) (fun c4 => ?_)
    · replace H := (gm_ite H).1 c4
      refine go_aloadn dX10_next_130 rfl ?_
      refine go_aloadn dX10_next_131 rfl ?_
      refine gm_getI fd_X10_20 dX10_next_132 H (fun x7 H => ?_)
      obtain ⟨c5, x8, ex8, H⟩ := gm_rc H
      refine go_callV (vs := [aI x7]) (stk := []) (o1 := (some (aI x8), hh1)) mk_X10_byteAt sv_X10_next_38 cl_X10 rfl dX10_next_135 c5 rfl rfl (Nat.le_of_ble_eq_true rfl) (Nat.le_of_ble_eq_true rfl) (ok_X10_byteAt ex8) (show Go M_X10_next (none, r) 138 [some (aA v0)] [aI x8] hh1 from ?_)
      obtain ⟨x9, ex9, H⟩ := bind_some H
      refine go_callS (vs := [aI x8]) (stk := []) (o1 := (some (aI x9), hh1)) mk_X10_isDigit ss_X10_next_49 dX10_next_138 rfl rfl (Nat.le_of_ble_eq_true rfl) (Nat.le_of_ble_eq_true rfl) (ok_X10_isDigit ex9) (show Go M_X10_next (none, r) 141 [some (aA v0)] [aI x9] hh1 from ?_)
      refine go_if_eq (tgt := 207) dX10_next_141 (by decide) (fun c7 => ?_) (fun c7 => ?_)
      · replace H := (gm_ite H).1 c7
        refine go_aloadn dX10_next_207 rfl ?_
        refine go_aloadn dX10_next_208 rfl ?_
        refine go_aloadn dX10_next_209 rfl ?_
        refine gm_getI fd_X10_20 dX10_next_210 H (fun x10 H => ?_)
        obtain ⟨c8, x11, ex11, H⟩ := gm_rc H
        refine go_callV (vs := [aI x10]) (stk := [aA v0]) (o1 := (some (aI x11), hh1)) mk_X10_byteAt sv_X10_next_38 cl_X10 rfl dX10_next_213 c8 rfl rfl (Nat.le_of_ble_eq_true rfl) (Nat.le_of_ble_eq_true rfl) (ok_X10_byteAt ex11) (show Go M_X10_next (none, r) 216 [some (aA v0)] [aI x11, aA v0] hh1 from ?_)
        refine go_bipush (v := (59 : Int32)) dX10_next_216 rfl ?_
        refine go_icmp_ne (tgt := 225) dX10_next_218 (by decide) (fun c9 => ?_) (fun c9 => ?_)
        · rw [if_pos c9] at H
          refine go_iconst (v := (4 : Int32)) dX10_next_225 rfl ?_
          exact okj_X10_next_226 v0 v0 (4 : Int32) hh1  H
        · rw [if_neg c9] at H
          refine go_iconst (v := (3 : Int32)) dX10_next_221 rfl ?_
          refine go_goto (tgt := 226) dX10_next_222 (by decide) ?_
          exact okj_X10_next_226 v0 v0 (3 : Int32) hh1  H
      · replace H := (gm_ite H).2 c7
        refine okl_X10_next_144 v0 (fun hz12 => j_X10_next_182 v0 hz12) hh1 ?_ H
        · intro hz12 H
          exact okj_X10_next_182 v0 hz12  H
    · replace H := (gm_ite H).2 c4
      refine go_aloadn dX10_next_87 rfl ?_
      refine go_iconst (v := (1 : Int32)) dX10_next_88 rfl ?_
      refine gm_putI fd_X10_17 (Or.inl rfl) dX10_next_89 H (fun hh2 H => ?_)
      exact okl_X10_next_92 v0 hh2 H
  · replace H := (gm_ite H).2 c1
    refine go_aloadn dX10_next_65 rfl ?_
    refine go_iconst (v := (0 : Int32)) dX10_next_66 rfl ?_
    refine gm_putI fd_X10_17 (Or.inl rfl) dX10_next_67 H (fun hh3 H => ?_)
    refine go_goto (tgt := 239) dX10_next_70 (by decide) ?_
    obtain rfl := Option.some.inj H
    exact go_return dX10_next_239 rfl
def m_X10_next (v0 : Nat) (h : Hp) : Option Hp :=
  (gfI h v0 10 4).bind fun x1 => (pfI h v0 10 3 x1).bind fun hh1 => l_X10_next_8 v0 (fun hz2 => j_X10_next_46 v0 hz2) hh1
set_option maxRecDepth 20000 in
theorem ok_X10_next {r : Hp} {v0 : Nat} {h : Hp} (H : m_X10_next v0 h = some r) : Ev M_X10_next [aA v0] h (none, r) := by
  show Go M_X10_next (none, r) 0 [some (aA v0)] [] h
  unfold m_X10_next at H
  refine go_aloadn dX10_next_0 rfl ?_
  refine go_aloadn dX10_next_1 rfl ?_
  refine gm_getI fd_X10_23 dX10_next_2 H (fun x1 H => ?_)
  refine gm_putI fd_X10_20 (Or.inl rfl) dX10_next_5 H (fun hh1 H => ?_)
  refine okl_X10_next_8 v0 (fun hz2 => j_X10_next_46 v0 hz2) hh1 ?_ H
  · intro hz2 H
    exact okj_X10_next_46 v0 hz2  H
/-! X4_sortOf -/
def j_X4_sortOf_19  (s0 : Int32) (h : Hp) : Option Int32 :=
  some s0
set_option maxRecDepth 20000 in
theorem okj_X4_sortOf_19 {r : Int32}  (s0 : Int32) (h : Hp) (H : j_X4_sortOf_19 s0 h = some r) : Go M_X4_sortOf (some (aI r), h) 19 [none] [aI s0] h := by
  unfold j_X4_sortOf_19 at H
  obtain rfl := Option.some.inj H
  exact go_ireturn dX4_sortOf_19 (tyI_int rfl)
def m_X4_sortOf (v0 : Int32) (h : Hp) : Option Int32 :=
  if (8 : Int32) ≤ v0 then j_X4_sortOf_19 (if (13 : Int32) ≤ v0 then (2 : Int32) else (0 : Int32)) h else some (1 : Int32)
set_option maxRecDepth 20000 in
theorem ok_X4_sortOf {r : Int32} {v0 : Int32} {h : Hp} (H : m_X4_sortOf v0 h = some r) : Ev M_X4_sortOf [aI v0] h (some (aI r), h) := by
  show Go M_X4_sortOf (some (aI r), h) 0 [some (aI v0)] [] h
  unfold m_X4_sortOf at H
  refine go_iloadn dX4_sortOf_0 rfl ?_
  refine go_bipush (v := (8 : Int32)) dX4_sortOf_1 rfl ?_
  refine go_icmp_ge (tgt := 8) dX4_sortOf_3 (by decide) (fun c1 => ?_) (fun c1 => ?_)
  · replace H := (gm_ite H).1 c1
    refine go_iloadn dX4_sortOf_8 rfl ?_
    refine go_bipush (v := (13 : Int32)) dX4_sortOf_9 rfl ?_
    refine go_icmp_ge (tgt := 18) dX4_sortOf_11 (by decide) (fun c2 => ?_) (fun c2 => ?_)
    · rw [if_pos c2] at H
      refine go_iconst (v := (2 : Int32)) dX4_sortOf_18 rfl ?_
      refine go_mask [false] (loc' := [none]) rfl ?_
      exact okj_X4_sortOf_19 (2 : Int32) h  H
    · rw [if_neg c2] at H
      refine go_iconst (v := (0 : Int32)) dX4_sortOf_14 rfl ?_
      refine go_goto (tgt := 19) dX4_sortOf_15 (by decide) ?_
      refine go_mask [false] (loc' := [none]) rfl ?_
      exact okj_X4_sortOf_19 (0 : Int32) h  H
  · replace H := (gm_ite H).2 c1
    refine go_iconst (v := (1 : Int32)) dX4_sortOf_6 rfl ?_
    obtain rfl := Option.some.inj H
    exact go_ireturn dX4_sortOf_7 (tyI_int rfl)
/-! X4_keywordOf -/
def m_X4_keywordOf (v0 : Int32) (h : Hp) : Option Nat :=
  if v0 = (0 : Int32) then (some (tN 0)) else if v0 = (1 : Int32) then (some (tN 1)) else if v0 = (2 : Int32) then (some (tN 2)) else if v0 = (3 : Int32) then (some (tN 3)) else if v0 = (4 : Int32) then (some (tN 4)) else if v0 = (5 : Int32) then (some (tN 5)) else if v0 = (6 : Int32) then (some (tN 6)) else if v0 = (7 : Int32) then (some (tN 7)) else if v0 = (8 : Int32) then (some (tN 8)) else if v0 = (9 : Int32) then (some (tN 9)) else if v0 = (10 : Int32) then (some (tN 10)) else if v0 = (11 : Int32) then (some (tN 11)) else if v0 = (12 : Int32) then (some (tN 12)) else if v0 = (13 : Int32) then (some (tN 13)) else some (tN 14)
set_option maxRecDepth 20000 in
theorem ok_X4_keywordOf {r : Nat} {v0 : Int32} {h : Hp} (H : m_X4_keywordOf v0 h = some r) : Ev M_X4_keywordOf [aI v0] h (some (aA r), h) := by
  show Go M_X4_keywordOf (some (aA r), h) 0 [some (aI v0)] [] h
  unfold m_X4_keywordOf at H
  refine go_iloadn dX4_keywordOf_0 rfl ?_
  by_cases c1 : v0 = (0 : Int32)
  · replace H := (gm_ite H).1 c1
    refine go_eqI c1 ?_
    refine go_tableIn (tgt := 72) dX4_keywordOf_1 (by decide) (by decide) rfl (by decide) ?_
    refine go_ldcS (i := 0) rfl dX4_keywordOf_72 ?_
    obtain rfl := Option.some.inj H
    exact go_areturn dX4_keywordOf_74 ⟨_, rfl, Or.inl ⟨_, rfl⟩⟩
  · replace H := (gm_ite H).2 c1
    by_cases c2 : v0 = (1 : Int32)
    · replace H := (gm_ite H).1 c2
      refine go_eqI c2 ?_
      refine go_tableIn (tgt := 75) dX4_keywordOf_1 (by decide) (by decide) rfl (by decide) ?_
      refine go_ldcS (i := 1) rfl dX4_keywordOf_75 ?_
      obtain rfl := Option.some.inj H
      exact go_areturn dX4_keywordOf_77 ⟨_, rfl, Or.inl ⟨_, rfl⟩⟩
    · replace H := (gm_ite H).2 c2
      by_cases c3 : v0 = (2 : Int32)
      · replace H := (gm_ite H).1 c3
        refine go_eqI c3 ?_
        refine go_tableIn (tgt := 78) dX4_keywordOf_1 (by decide) (by decide) rfl (by decide) ?_
        refine go_ldcS (i := 2) rfl dX4_keywordOf_78 ?_
        obtain rfl := Option.some.inj H
        exact go_areturn dX4_keywordOf_80 ⟨_, rfl, Or.inl ⟨_, rfl⟩⟩
      · replace H := (gm_ite H).2 c3
        by_cases c4 : v0 = (3 : Int32)
        · replace H := (gm_ite H).1 c4
          refine go_eqI c4 ?_
          refine go_tableIn (tgt := 81) dX4_keywordOf_1 (by decide) (by decide) rfl (by decide) ?_
          refine go_ldcS (i := 3) rfl dX4_keywordOf_81 ?_
          obtain rfl := Option.some.inj H
          exact go_areturn dX4_keywordOf_83 ⟨_, rfl, Or.inl ⟨_, rfl⟩⟩
        · replace H := (gm_ite H).2 c4
          by_cases c5 : v0 = (4 : Int32)
          · replace H := (gm_ite H).1 c5
            refine go_eqI c5 ?_
            refine go_tableIn (tgt := 84) dX4_keywordOf_1 (by decide) (by decide) rfl (by decide) ?_
            refine go_ldcS (i := 4) rfl dX4_keywordOf_84 ?_
            obtain rfl := Option.some.inj H
            exact go_areturn dX4_keywordOf_86 ⟨_, rfl, Or.inl ⟨_, rfl⟩⟩
          · replace H := (gm_ite H).2 c5
            by_cases c6 : v0 = (5 : Int32)
            · replace H := (gm_ite H).1 c6
              refine go_eqI c6 ?_
              refine go_tableIn (tgt := 87) dX4_keywordOf_1 (by decide) (by decide) rfl (by decide) ?_
              refine go_ldcS (i := 5) rfl dX4_keywordOf_87 ?_
              obtain rfl := Option.some.inj H
              exact go_areturn dX4_keywordOf_89 ⟨_, rfl, Or.inl ⟨_, rfl⟩⟩
            · replace H := (gm_ite H).2 c6
              by_cases c7 : v0 = (6 : Int32)
              · replace H := (gm_ite H).1 c7
                refine go_eqI c7 ?_
                refine go_tableIn (tgt := 90) dX4_keywordOf_1 (by decide) (by decide) rfl (by decide) ?_
                refine go_ldcS (i := 6) rfl dX4_keywordOf_90 ?_
                obtain rfl := Option.some.inj H
                exact go_areturn dX4_keywordOf_92 ⟨_, rfl, Or.inl ⟨_, rfl⟩⟩
              · replace H := (gm_ite H).2 c7
                by_cases c8 : v0 = (7 : Int32)
                · replace H := (gm_ite H).1 c8
                  refine go_eqI c8 ?_
                  refine go_tableIn (tgt := 93) dX4_keywordOf_1 (by decide) (by decide) rfl (by decide) ?_
                  refine go_ldcS (i := 7) rfl dX4_keywordOf_93 ?_
                  obtain rfl := Option.some.inj H
                  exact go_areturn dX4_keywordOf_95 ⟨_, rfl, Or.inl ⟨_, rfl⟩⟩
                · replace H := (gm_ite H).2 c8
                  by_cases c9 : v0 = (8 : Int32)
                  · replace H := (gm_ite H).1 c9
                    refine go_eqI c9 ?_
                    refine go_tableIn (tgt := 96) dX4_keywordOf_1 (by decide) (by decide) rfl (by decide) ?_
                    refine go_ldcS (i := 8) rfl dX4_keywordOf_96 ?_
                    obtain rfl := Option.some.inj H
                    exact go_areturn dX4_keywordOf_98 ⟨_, rfl, Or.inl ⟨_, rfl⟩⟩
                  · replace H := (gm_ite H).2 c9
                    by_cases c10 : v0 = (9 : Int32)
                    · replace H := (gm_ite H).1 c10
                      refine go_eqI c10 ?_
                      refine go_tableIn (tgt := 99) dX4_keywordOf_1 (by decide) (by decide) rfl (by decide) ?_
                      refine go_ldcS (i := 9) rfl dX4_keywordOf_99 ?_
                      obtain rfl := Option.some.inj H
                      exact go_areturn dX4_keywordOf_101 ⟨_, rfl, Or.inl ⟨_, rfl⟩⟩
                    · replace H := (gm_ite H).2 c10
                      by_cases c11 : v0 = (10 : Int32)
                      · replace H := (gm_ite H).1 c11
                        refine go_eqI c11 ?_
                        refine go_tableIn (tgt := 102) dX4_keywordOf_1 (by decide) (by decide) rfl (by decide) ?_
                        refine go_ldcS (i := 10) rfl dX4_keywordOf_102 ?_
                        obtain rfl := Option.some.inj H
                        exact go_areturn dX4_keywordOf_104 ⟨_, rfl, Or.inl ⟨_, rfl⟩⟩
                      · replace H := (gm_ite H).2 c11
                        by_cases c12 : v0 = (11 : Int32)
                        · replace H := (gm_ite H).1 c12
                          refine go_eqI c12 ?_
                          refine go_tableIn (tgt := 105) dX4_keywordOf_1 (by decide) (by decide) rfl (by decide) ?_
                          refine go_ldcS (i := 11) rfl dX4_keywordOf_105 ?_
                          obtain rfl := Option.some.inj H
                          exact go_areturn dX4_keywordOf_107 ⟨_, rfl, Or.inl ⟨_, rfl⟩⟩
                        · replace H := (gm_ite H).2 c12
                          by_cases c13 : v0 = (12 : Int32)
                          · replace H := (gm_ite H).1 c13
                            refine go_eqI c13 ?_
                            refine go_tableIn (tgt := 108) dX4_keywordOf_1 (by decide) (by decide) rfl (by decide) ?_
                            refine go_ldcS (i := 12) rfl dX4_keywordOf_108 ?_
                            obtain rfl := Option.some.inj H
                            exact go_areturn dX4_keywordOf_110 ⟨_, rfl, Or.inl ⟨_, rfl⟩⟩
                          · replace H := (gm_ite H).2 c13
                            by_cases c14 : v0 = (13 : Int32)
                            · replace H := (gm_ite H).1 c14
                              refine go_eqI c14 ?_
                              refine go_tableIn (tgt := 111) dX4_keywordOf_1 (by decide) (by decide) rfl (by decide) ?_
                              refine go_ldcS (i := 13) rfl dX4_keywordOf_111 ?_
                              obtain rfl := Option.some.inj H
                              exact go_areturn dX4_keywordOf_113 ⟨_, rfl, Or.inl ⟨_, rfl⟩⟩
                            · replace H := (gm_ite H).2 c14
                              refine go_tableOut (tgt := 114) dX4_keywordOf_1 (sw_out (fun i h1 h2 e => ?_)) (by decide) ?_
                              · have h3 : i = 0 ∨ i = 1 ∨ i = 2 ∨ i = 3 ∨ i = 4 ∨ i = 5 ∨ i = 6 ∨ i = 7 ∨ i = 8 ∨ i = 9 ∨ i = 10 ∨ i = 11 ∨ i = 12 ∨ i = 13 := by omega
                                rcases h3 with rfl | rfl | rfl | rfl | rfl | rfl | rfl | rfl | rfl | rfl | rfl | rfl | rfl | rfl
                                · exact sw_ne c1 (by decide) e
                                · exact sw_ne c2 (by decide) e
                                · exact sw_ne c3 (by decide) e
                                · exact sw_ne c4 (by decide) e
                                · exact sw_ne c5 (by decide) e
                                · exact sw_ne c6 (by decide) e
                                · exact sw_ne c7 (by decide) e
                                · exact sw_ne c8 (by decide) e
                                · exact sw_ne c9 (by decide) e
                                · exact sw_ne c10 (by decide) e
                                · exact sw_ne c11 (by decide) e
                                · exact sw_ne c12 (by decide) e
                                · exact sw_ne c13 (by decide) e
                                · exact sw_ne c14 (by decide) e
                              · skip
                                refine go_ldcS (i := 14) rfl dX4_keywordOf_114 ?_
                                obtain rfl := Option.some.inj H
                                exact go_areturn dX4_keywordOf_116 ⟨_, rfl, Or.inl ⟨_, rfl⟩⟩
/-! X10_tokenIs -/
def b_X10_tokenIs_28 (v0 : Nat) (v1 : Nat) (h : Hp) (k : Int32 → Option Int32) (v2 : Int32) : Option Int32 :=
  (strLen v1).bind fun x1 => if x1 ≤ v2 then (some (1 : Int32)) else (gfI h v0 10 3).bind fun x2 => (rc h v0 10 (m_X10_byteAt v0 (x2 + v2) h)).bind fun x3 => (strCh v1 v2).bind fun x4 => if x3 = x4 then (k (v2 + (1 : Int32))) else some (0 : Int32)
set_option maxRecDepth 20000 in
theorem okb_X10_tokenIs_28 {r : Int32} (v0 : Nat) (v1 : Nat) (h : Hp) (k : Int32 → Option Int32) (v2 : Int32) (Hk : ∀ (v2q : Int32), k v2q = some r → Go M_X10_tokenIs (some (aI r), h) 28 [some (aA v0), some (aA v1), some (aI v2q)] [] h) (H : b_X10_tokenIs_28 v0 v1 h k v2 = some r) : Go M_X10_tokenIs (some (aI r), h) 28 [some (aA v0), some (aA v1), some (aI v2)] [] h := by
  unfold b_X10_tokenIs_28 at H
  refine go_iloadn dX10_tokenIs_28 rfl ?_
  refine go_aloadn dX10_tokenIs_29 rfl ?_
  refine gm_strLen sv_X10_tokenIs_52 dX10_tokenIs_30 rfl (Nat.le_of_ble_eq_true rfl) H (fun x1 H => ?_)
  refine go_icmp_ge (tgt := 62) dX10_tokenIs_33 (by decide) (fun c1 => ?_) (fun c1 => ?_)
  · replace H := (gm_ite H).1 c1
    refine go_iconst (v := (1 : Int32)) dX10_tokenIs_62 rfl ?_
    obtain rfl := Option.some.inj H
    exact go_ireturn (x := (1 : Int32)) dX10_tokenIs_63 (tyI_bool rfl (by decide))
  · replace H := (gm_ite H).2 c1
    refine go_aloadn dX10_tokenIs_36 rfl ?_
    refine go_aloadn dX10_tokenIs_37 rfl ?_
    refine gm_getI fd_X10_20 dX10_tokenIs_38 H (fun x2 H => ?_)
    refine go_iloadn dX10_tokenIs_41 rfl ?_
    refine go_iadd dX10_tokenIs_42 ?_
    obtain ⟨c2, x3, ex3, H⟩ := gm_rc H
    refine go_callV (vs := [aI (x2 + v2)]) (stk := []) (o1 := (some (aI x3), h)) mk_X10_byteAt sv_X10_tokenIs_38 cl_X10 rfl dX10_tokenIs_43 c2 rfl rfl (Nat.le_of_ble_eq_true rfl) (Nat.le_of_ble_eq_true rfl) (ok_X10_byteAt ex3) (show Go M_X10_tokenIs (some (aI r), h) 46 [some (aA v0), some (aA v1), some (aI v2)] [aI x3] h from ?_)
    refine go_aloadn dX10_tokenIs_46 rfl ?_
    refine go_iloadn dX10_tokenIs_47 rfl ?_
    refine gm_strCh sv_X10_tokenIs_57 dX10_tokenIs_48 rfl (Nat.le_of_ble_eq_true rfl) H (fun x4 H => ?_)
    refine go_icmp_eq (tgt := 56) dX10_tokenIs_51 (by decide) (fun c3 => ?_) (fun c3 => ?_)
    · replace H := (gm_ite H).1 c3
      refine go_iinc (v := (v2 + (1 : Int32))) (loc2 := [some (aA v0), some (aA v1), some (aI (v2 + (1 : Int32)))]) dX10_tokenIs_56 rfl rfl (by decide) rfl ?_
      refine go_goto (tgt := 28) dX10_tokenIs_59 (by decide) ?_
      exact Hk (v2 + (1 : Int32)) H
    · replace H := (gm_ite H).2 c3
      refine go_iconst (v := (0 : Int32)) dX10_tokenIs_54 rfl ?_
      obtain rfl := Option.some.inj H
      exact go_ireturn (x := (0 : Int32)) dX10_tokenIs_55 (tyI_bool rfl (by decide))
def l_X10_tokenIs_28 (v0 : Nat) (v1 : Nat) (h : Hp) (v2 : Int32) : Option Int32 := loopK FUEL (fun (k : Int32 → Option Int32) (s : Int32) => b_X10_tokenIs_28 v0 v1 h (fun v2q => k v2q) s) v2
theorem okl_X10_tokenIs_28 {r : Int32} (v0 : Nat) (v1 : Nat) (h : Hp) (v2 : Int32) (H : l_X10_tokenIs_28 v0 v1 h v2 = some r) : Go M_X10_tokenIs (some (aI r), h) 28 [some (aA v0), some (aA v1), some (aI v2)] [] h := by
  unfold l_X10_tokenIs_28 at H
  exact go_loop (σ := Int32) (body := (fun (k : Int32 → Option Int32) (s : Int32) => b_X10_tokenIs_28 v0 v1 h (fun v2q => k v2q) s)) (fun s => [some (aA v0), some (aA v1), some (aI s)]) (fun s => h) (fun k s Hk H => okb_X10_tokenIs_28 v0 v1 h (fun v2q => k v2q) s  (fun v2q H => Hk v2q H) H) FUEL v2 H
def m_X10_tokenIs (v0 : Nat) (v1 : Nat) (h : Hp) : Option Int32 :=
  (gfI h v0 10 2).bind fun x1 => if ¬ x1 = (1 : Int32) then (some (0 : Int32)) else (gfI h v0 10 4).bind fun x2 => (gfI h v0 10 3).bind fun x3 => (strLen v1).bind fun x4 => if (x2 - x3) = x4 then (l_X10_tokenIs_28 v0 v1 h (0 : Int32)) else some (0 : Int32)
set_option maxRecDepth 20000 in
theorem ok_X10_tokenIs {r : Int32} {v0 : Nat} {v1 : Nat} {h : Hp} (H : m_X10_tokenIs v0 v1 h = some r) : Ev M_X10_tokenIs [aA v0, aA v1] h (some (aI r), h) := by
  show Go M_X10_tokenIs (some (aI r), h) 0 [some (aA v0), some (aA v1), none] [] h
  unfold m_X10_tokenIs at H
  refine go_aloadn dX10_tokenIs_0 rfl ?_
  refine gm_getI fd_X10_17 dX10_tokenIs_1 H (fun x1 H => ?_)
  refine go_iconst (v := (1 : Int32)) dX10_tokenIs_4 rfl ?_
  refine go_icmp_ne (tgt := 24) dX10_tokenIs_5 (by decide) (fun c1 => ?_) (fun c1 => ?_)
  · replace H := (gm_ite H).1 c1
    refine go_iconst (v := (0 : Int32)) dX10_tokenIs_24 rfl ?_
    obtain rfl := Option.some.inj H
    exact go_ireturn (x := (0 : Int32)) dX10_tokenIs_25 (tyI_bool rfl (by decide))
  · replace H := (gm_ite H).2 c1
    refine go_aloadn dX10_tokenIs_8 rfl ?_
    refine gm_getI fd_X10_23 dX10_tokenIs_9 H (fun x2 H => ?_)
    refine go_aloadn dX10_tokenIs_12 rfl ?_
    refine gm_getI fd_X10_20 dX10_tokenIs_13 H (fun x3 H => ?_)
    refine go_isub dX10_tokenIs_16 ?_
    refine go_aloadn dX10_tokenIs_17 rfl ?_
    refine gm_strLen sv_X10_tokenIs_52 dX10_tokenIs_18 rfl (Nat.le_of_ble_eq_true rfl) H (fun x4 H => ?_)
    refine go_icmp_eq (tgt := 26) dX10_tokenIs_21 (by decide) (fun c2 => ?_) (fun c2 => ?_)
    · replace H := (gm_ite H).1 c2
      refine go_iconst (v := (0 : Int32)) dX10_tokenIs_26 rfl ?_
      refine go_istoren (loc2 := [some (aA v0), some (aA v1), some (aI (0 : Int32))]) dX10_tokenIs_27 rfl (by decide) rfl ?_
      exact okl_X10_tokenIs_28 v0 v1 h (0 : Int32) H
    · replace H := (gm_ite H).2 c2
      refine go_iconst (v := (0 : Int32)) dX10_tokenIs_24 rfl ?_
      obtain rfl := Option.some.inj H
      exact go_ireturn (x := (0 : Int32)) dX10_tokenIs_25 (tyI_bool rfl (by decide))
/-! X4_kindOf -/
def j_X4_kindOf_29 (v0 : Nat) (v1 : Int32) (v2 : Int32)  (h : Hp) (k : Int32 → Option Int32) : Option Int32 :=
  k (v2 + (1 : Int32))
set_option maxRecDepth 20000 in
theorem okj_X4_kindOf_29 {r : Int32} (v0 : Nat) (v1 : Int32) (v2 : Int32)  (h : Hp) (k : Int32 → Option Int32) (Hk : ∀ (v2q : Int32), k v2q = some r → Go M_X4_kindOf (some (aI r), h) 2 [some (aA v0), some (aI v1), some (aI v2q)] [] h) (H : j_X4_kindOf_29 v0 v1 v2 h k = some r) : Go M_X4_kindOf (some (aI r), h) 29 [some (aA v0), some (aI v1), some (aI v2)] [] h := by
  unfold j_X4_kindOf_29 at H
  refine go_iinc (v := (v2 + (1 : Int32))) (loc2 := [some (aA v0), some (aI v1), some (aI (v2 + (1 : Int32)))]) dX4_kindOf_29 rfl rfl (by decide) rfl ?_
  refine go_goto (tgt := 2) dX4_kindOf_32 (by decide) ?_
  exact Hk (v2 + (1 : Int32)) H
def b_X4_kindOf_2 (v0 : Nat) (v1 : Int32) (h : Hp) (k : Int32 → Option Int32) (v2 : Int32) : Option Int32 :=
  if (15 : Int32) ≤ v2 then (some (-1 : Int32)) else (m_X4_sortOf v2 h).bind fun x1 => if ¬ x1 = v1 then j_X4_kindOf_29 v0 v1 v2 h k else (m_X4_keywordOf v2 h).bind fun x2 => (rc h v0 10 (m_X10_tokenIs v0 x2 h)).bind fun x3 => if x3 = 0 then j_X4_kindOf_29 v0 v1 v2 h k else some v2
set_option maxRecDepth 20000 in
theorem okb_X4_kindOf_2 {r : Int32} (v0 : Nat) (v1 : Int32) (h : Hp) (k : Int32 → Option Int32) (v2 : Int32) (Hk : ∀ (v2q : Int32), k v2q = some r → Go M_X4_kindOf (some (aI r), h) 2 [some (aA v0), some (aI v1), some (aI v2q)] [] h) (H : b_X4_kindOf_2 v0 v1 h k v2 = some r) : Go M_X4_kindOf (some (aI r), h) 2 [some (aA v0), some (aI v1), some (aI v2)] [] h := by
  unfold b_X4_kindOf_2 at H
  refine go_iloadn dX4_kindOf_2 rfl ?_
  refine go_bipush (v := (15 : Int32)) dX4_kindOf_3 rfl ?_
  refine go_icmp_ge (tgt := 35) dX4_kindOf_5 (by decide) (fun c1 => ?_) (fun c1 => ?_)
  · replace H := (gm_ite H).1 c1
    refine go_iconst (v := (-1 : Int32)) dX4_kindOf_35 rfl ?_
    obtain rfl := Option.some.inj H
    exact go_ireturn dX4_kindOf_36 (tyI_int rfl)
  · replace H := (gm_ite H).2 c1
    refine go_iloadn dX4_kindOf_8 rfl ?_
    obtain ⟨x1, ex1, H⟩ := bind_some H
    refine go_callS (vs := [aI v2]) (stk := []) (o1 := (some (aI x1), h)) mk_X4_sortOf ss_X4_kindOf_98 dX4_kindOf_9 rfl rfl (Nat.le_of_ble_eq_true rfl) (Nat.le_of_ble_eq_true rfl) (ok_X4_sortOf ex1) (show Go M_X4_kindOf (some (aI r), h) 12 [some (aA v0), some (aI v1), some (aI v2)] [aI x1] h from ?_)
    refine go_iloadn dX4_kindOf_12 rfl ?_
    refine go_icmp_ne (tgt := 29) dX4_kindOf_13 (by decide) (fun c3 => ?_) (fun c3 => ?_)
    · replace H := (gm_ite H).1 c3
      exact okj_X4_kindOf_29 v0 v1 v2 h k Hk H
    · replace H := (gm_ite H).2 c3
      refine go_aloadn dX4_kindOf_16 rfl ?_
      refine go_iloadn dX4_kindOf_17 rfl ?_
      obtain ⟨x2, ex2, H⟩ := bind_some H
      refine go_callS (vs := [aI v2]) (stk := [aA v0]) (o1 := (some (aA x2), h)) mk_X4_keywordOf ss_X4_kindOf_102 dX4_kindOf_18 rfl rfl (Nat.le_of_ble_eq_true rfl) (Nat.le_of_ble_eq_true rfl) (ok_X4_keywordOf ex2) (show Go M_X4_kindOf (some (aI r), h) 21 [some (aA v0), some (aI v1), some (aI v2)] [aA x2, aA v0] h from ?_)
      obtain ⟨c5, x3, ex3, H⟩ := gm_rc H
      refine go_callV (vs := [aA x2]) (stk := []) (o1 := (some (aI x3), h)) mk_X10_tokenIs sv_X4_kindOf_105 cl_X10 rfl dX4_kindOf_21 c5 rfl rfl (Nat.le_of_ble_eq_true rfl) (Nat.le_of_ble_eq_true rfl) (ok_X10_tokenIs ex3) (show Go M_X4_kindOf (some (aI r), h) 24 [some (aA v0), some (aI v1), some (aI v2)] [aI x3] h from ?_)
      refine go_if_eq (tgt := 29) dX4_kindOf_24 (by decide) (fun c6 => ?_) (fun c6 => ?_)
      · replace H := (gm_ite H).1 c6
        exact okj_X4_kindOf_29 v0 v1 v2 h k Hk H
      · replace H := (gm_ite H).2 c6
        refine go_iloadn dX4_kindOf_27 rfl ?_
        obtain rfl := Option.some.inj H
        exact go_ireturn dX4_kindOf_28 (tyI_int rfl)
def l_X4_kindOf_2 (v0 : Nat) (v1 : Int32) (h : Hp) (v2 : Int32) : Option Int32 := loopK FUEL (fun (k : Int32 → Option Int32) (s : Int32) => b_X4_kindOf_2 v0 v1 h (fun v2q => k v2q) s) v2
theorem okl_X4_kindOf_2 {r : Int32} (v0 : Nat) (v1 : Int32) (h : Hp) (v2 : Int32) (H : l_X4_kindOf_2 v0 v1 h v2 = some r) : Go M_X4_kindOf (some (aI r), h) 2 [some (aA v0), some (aI v1), some (aI v2)] [] h := by
  unfold l_X4_kindOf_2 at H
  exact go_loop (σ := Int32) (body := (fun (k : Int32 → Option Int32) (s : Int32) => b_X4_kindOf_2 v0 v1 h (fun v2q => k v2q) s)) (fun s => [some (aA v0), some (aI v1), some (aI s)]) (fun s => h) (fun k s Hk H => okb_X4_kindOf_2 v0 v1 h (fun v2q => k v2q) s  (fun v2q H => Hk v2q H) H) FUEL v2 H
def m_X4_kindOf (v0 : Nat) (v1 : Int32) (h : Hp) : Option Int32 :=
  l_X4_kindOf_2 v0 v1 h (0 : Int32)
set_option maxRecDepth 20000 in
theorem ok_X4_kindOf {r : Int32} {v0 : Nat} {v1 : Int32} {h : Hp} (H : m_X4_kindOf v0 v1 h = some r) : Ev M_X4_kindOf [aA v0, aI v1] h (some (aI r), h) := by
  show Go M_X4_kindOf (some (aI r), h) 0 [some (aA v0), some (aI v1), none] [] h
  unfold m_X4_kindOf at H
  refine go_iconst (v := (0 : Int32)) dX4_kindOf_0 rfl ?_
  refine go_istoren (loc2 := [some (aA v0), some (aI v1), some (aI (0 : Int32))]) dX4_kindOf_1 rfl (by decide) rfl ?_
  exact okl_X4_kindOf_2 v0 v1 h (0 : Int32) H
/-! X4_shapeOf -/
def j_X4_shapeOf_76   (h : Hp) : Option Nat :=
  some (tN 19)
set_option maxRecDepth 20000 in
theorem okj_X4_shapeOf_76 {r : Nat}   (h : Hp) (H : j_X4_shapeOf_76 h = some r) : Go M_X4_shapeOf (some (aA r), h) 76 [none] [] h := by
  unfold j_X4_shapeOf_76 at H
  refine go_ldcS (i := 19) rfl dX4_shapeOf_76 ?_
  obtain rfl := Option.some.inj H
  exact go_areturn dX4_shapeOf_78 ⟨_, rfl, Or.inl ⟨_, rfl⟩⟩
def j_X4_shapeOf_82   (h : Hp) : Option Nat :=
  some (tN 21)
set_option maxRecDepth 20000 in
theorem okj_X4_shapeOf_82 {r : Nat}   (h : Hp) (H : j_X4_shapeOf_82 h = some r) : Go M_X4_shapeOf (some (aA r), h) 82 [none] [] h := by
  unfold j_X4_shapeOf_82 at H
  refine go_ldcS (i := 21) rfl dX4_shapeOf_82 ?_
  obtain rfl := Option.some.inj H
  exact go_areturn dX4_shapeOf_84 ⟨_, rfl, Or.inl ⟨_, rfl⟩⟩
def j_X4_shapeOf_79   (h : Hp) : Option Nat :=
  some (tN 20)
set_option maxRecDepth 20000 in
theorem okj_X4_shapeOf_79 {r : Nat}   (h : Hp) (H : j_X4_shapeOf_79 h = some r) : Go M_X4_shapeOf (some (aA r), h) 79 [none] [] h := by
  unfold j_X4_shapeOf_79 at H
  refine go_ldcS (i := 20) rfl dX4_shapeOf_79 ?_
  obtain rfl := Option.some.inj H
  exact go_areturn dX4_shapeOf_81 ⟨_, rfl, Or.inl ⟨_, rfl⟩⟩
def m_X4_shapeOf (v0 : Int32) (h : Hp) : Option Nat :=
  if v0 = (0 : Int32) then (some (tN 16)) else if v0 = (1 : Int32) then (some (tN 17)) else if v0 = (2 : Int32) then (some (tN 18)) else if v0 = (3 : Int32) then (j_X4_shapeOf_76 h) else if v0 = (4 : Int32) then (j_X4_shapeOf_76 h) else if v0 = (5 : Int32) then (j_X4_shapeOf_76 h) else if v0 = (6 : Int32) then (j_X4_shapeOf_82 h) else if v0 = (7 : Int32) then (j_X4_shapeOf_82 h) else if v0 = (8 : Int32) then (some (tN 15)) else if v0 = (9 : Int32) then (j_X4_shapeOf_82 h) else if v0 = (10 : Int32) then (j_X4_shapeOf_79 h) else if v0 = (11 : Int32) then (j_X4_shapeOf_79 h) else j_X4_shapeOf_82 h
set_option maxRecDepth 20000 in
theorem ok_X4_shapeOf {r : Nat} {v0 : Int32} {h : Hp} (H : m_X4_shapeOf v0 h = some r) : Ev M_X4_shapeOf [aI v0] h (some (aA r), h) := by
  show Go M_X4_shapeOf (some (aA r), h) 0 [some (aI v0)] [] h
  unfold m_X4_shapeOf at H
  refine go_iloadn dX4_shapeOf_0 rfl ?_
  by_cases c1 : v0 = (0 : Int32)
  · replace H := (gm_ite H).1 c1
    refine go_eqI c1 ?_
    refine go_tableIn (tgt := 67) dX4_shapeOf_1 (by decide) (by decide) rfl (by decide) ?_
    refine go_ldcS (i := 16) rfl dX4_shapeOf_67 ?_
    obtain rfl := Option.some.inj H
    exact go_areturn dX4_shapeOf_69 ⟨_, rfl, Or.inl ⟨_, rfl⟩⟩
  · replace H := (gm_ite H).2 c1
    by_cases c2 : v0 = (1 : Int32)
    · replace H := (gm_ite H).1 c2
      refine go_eqI c2 ?_
      refine go_tableIn (tgt := 70) dX4_shapeOf_1 (by decide) (by decide) rfl (by decide) ?_
      refine go_ldcS (i := 17) rfl dX4_shapeOf_70 ?_
      obtain rfl := Option.some.inj H
      exact go_areturn dX4_shapeOf_72 ⟨_, rfl, Or.inl ⟨_, rfl⟩⟩
    · replace H := (gm_ite H).2 c2
      by_cases c3 : v0 = (2 : Int32)
      · replace H := (gm_ite H).1 c3
        refine go_eqI c3 ?_
        refine go_tableIn (tgt := 73) dX4_shapeOf_1 (by decide) (by decide) rfl (by decide) ?_
        refine go_ldcS (i := 18) rfl dX4_shapeOf_73 ?_
        obtain rfl := Option.some.inj H
        exact go_areturn dX4_shapeOf_75 ⟨_, rfl, Or.inl ⟨_, rfl⟩⟩
      · replace H := (gm_ite H).2 c3
        by_cases c4 : v0 = (3 : Int32)
        · replace H := (gm_ite H).1 c4
          refine go_eqI c4 ?_
          refine go_tableIn (tgt := 76) dX4_shapeOf_1 (by decide) (by decide) rfl (by decide) ?_
          refine go_mask [false] (loc' := [none]) rfl ?_
          exact okj_X4_shapeOf_76 h  H
        · replace H := (gm_ite H).2 c4
          by_cases c5 : v0 = (4 : Int32)
          · replace H := (gm_ite H).1 c5
            refine go_eqI c5 ?_
            refine go_tableIn (tgt := 76) dX4_shapeOf_1 (by decide) (by decide) rfl (by decide) ?_
            refine go_mask [false] (loc' := [none]) rfl ?_
            exact okj_X4_shapeOf_76 h  H
          · replace H := (gm_ite H).2 c5
            by_cases c6 : v0 = (5 : Int32)
            · replace H := (gm_ite H).1 c6
              refine go_eqI c6 ?_
              refine go_tableIn (tgt := 76) dX4_shapeOf_1 (by decide) (by decide) rfl (by decide) ?_
              refine go_mask [false] (loc' := [none]) rfl ?_
              exact okj_X4_shapeOf_76 h  H
            · replace H := (gm_ite H).2 c6
              by_cases c7 : v0 = (6 : Int32)
              · replace H := (gm_ite H).1 c7
                refine go_eqI c7 ?_
                refine go_tableIn (tgt := 82) dX4_shapeOf_1 (by decide) (by decide) rfl (by decide) ?_
                refine go_mask [false] (loc' := [none]) rfl ?_
                exact okj_X4_shapeOf_82 h  H
              · replace H := (gm_ite H).2 c7
                by_cases c8 : v0 = (7 : Int32)
                · replace H := (gm_ite H).1 c8
                  refine go_eqI c8 ?_
                  refine go_tableIn (tgt := 82) dX4_shapeOf_1 (by decide) (by decide) rfl (by decide) ?_
                  refine go_mask [false] (loc' := [none]) rfl ?_
                  exact okj_X4_shapeOf_82 h  H
                · replace H := (gm_ite H).2 c8
                  by_cases c9 : v0 = (8 : Int32)
                  · replace H := (gm_ite H).1 c9
                    refine go_eqI c9 ?_
                    refine go_tableIn (tgt := 64) dX4_shapeOf_1 (by decide) (by decide) rfl (by decide) ?_
                    refine go_ldcS (i := 15) rfl dX4_shapeOf_64 ?_
                    obtain rfl := Option.some.inj H
                    exact go_areturn dX4_shapeOf_66 ⟨_, rfl, Or.inl ⟨_, rfl⟩⟩
                  · replace H := (gm_ite H).2 c9
                    by_cases c10 : v0 = (9 : Int32)
                    · replace H := (gm_ite H).1 c10
                      refine go_eqI c10 ?_
                      refine go_tableIn (tgt := 82) dX4_shapeOf_1 (by decide) (by decide) rfl (by decide) ?_
                      refine go_mask [false] (loc' := [none]) rfl ?_
                      exact okj_X4_shapeOf_82 h  H
                    · replace H := (gm_ite H).2 c10
                      by_cases c11 : v0 = (10 : Int32)
                      · replace H := (gm_ite H).1 c11
                        refine go_eqI c11 ?_
                        refine go_tableIn (tgt := 79) dX4_shapeOf_1 (by decide) (by decide) rfl (by decide) ?_
                        refine go_mask [false] (loc' := [none]) rfl ?_
                        exact okj_X4_shapeOf_79 h  H
                      · replace H := (gm_ite H).2 c11
                        by_cases c12 : v0 = (11 : Int32)
                        · replace H := (gm_ite H).1 c12
                          refine go_eqI c12 ?_
                          refine go_tableIn (tgt := 79) dX4_shapeOf_1 (by decide) (by decide) rfl (by decide) ?_
                          refine go_mask [false] (loc' := [none]) rfl ?_
                          exact okj_X4_shapeOf_79 h  H
                        · replace H := (gm_ite H).2 c12
                          refine go_tableOut (tgt := 82) dX4_shapeOf_1 (sw_out (fun i h1 h2 e => ?_)) (by decide) ?_
                          · have h3 : i = 0 ∨ i = 1 ∨ i = 2 ∨ i = 3 ∨ i = 4 ∨ i = 5 ∨ i = 6 ∨ i = 7 ∨ i = 8 ∨ i = 9 ∨ i = 10 ∨ i = 11 := by omega
                            rcases h3 with rfl | rfl | rfl | rfl | rfl | rfl | rfl | rfl | rfl | rfl | rfl | rfl
                            · exact sw_ne c1 (by decide) e
                            · exact sw_ne c2 (by decide) e
                            · exact sw_ne c3 (by decide) e
                            · exact sw_ne c4 (by decide) e
                            · exact sw_ne c5 (by decide) e
                            · exact sw_ne c6 (by decide) e
                            · exact sw_ne c7 (by decide) e
                            · exact sw_ne c8 (by decide) e
                            · exact sw_ne c9 (by decide) e
                            · exact sw_ne c10 (by decide) e
                            · exact sw_ne c11 (by decide) e
                            · exact sw_ne c12 (by decide) e
                          · skip
                            refine go_mask [false] (loc' := [none]) rfl ?_
                            exact okj_X4_shapeOf_82 h  H
/-! X10_number -/
def b_X10_number_7 (v0 : Nat) (h : Hp) (k : Int32 → Int32 → Option Int32) (v1 : Int32) (v2 : Int32) : Option Int32 :=
  (gfI h v0 10 4).bind fun x1 => if x1 ≤ v2 then (some v1) else (rc h v0 10 (m_X10_byteAt v0 v2 h)).bind fun x2 => k (((v1 * (10 : Int32)) + x2) - (48 : Int32)) (v2 + (1 : Int32))
set_option maxRecDepth 20000 in
theorem okb_X10_number_7 {r : Int32} (v0 : Nat) (h : Hp) (k : Int32 → Int32 → Option Int32) (v1 : Int32) (v2 : Int32) (Hk : ∀ (v1q : Int32) (v2q : Int32), k v1q v2q = some r → Go M_X10_number (some (aI r), h) 7 [some (aA v0), some (aI v1q), some (aI v2q)] [] h) (H : b_X10_number_7 v0 h k v1 v2 = some r) : Go M_X10_number (some (aI r), h) 7 [some (aA v0), some (aI v1), some (aI v2)] [] h := by
  unfold b_X10_number_7 at H
  refine go_iloadn dX10_number_7 rfl ?_
  refine go_aloadn dX10_number_8 rfl ?_
  refine gm_getI fd_X10_23 dX10_number_9 H (fun x1 H => ?_)
  refine go_icmp_ge (tgt := 35) dX10_number_12 (by decide) (fun c1 => ?_) (fun c1 => ?_)
  · replace H := (gm_ite H).1 c1
    refine go_iloadn dX10_number_35 rfl ?_
    obtain rfl := Option.some.inj H
    exact go_ireturn dX10_number_36 (tyI_int rfl)
  · replace H := (gm_ite H).2 c1
    refine go_iloadn dX10_number_15 rfl ?_
    refine go_bipush (v := (10 : Int32)) dX10_number_16 rfl ?_
    refine go_imul dX10_number_18 ?_
    refine go_aloadn dX10_number_19 rfl ?_
    refine go_iloadn dX10_number_20 rfl ?_
    obtain ⟨c2, x2, ex2, H⟩ := gm_rc H
    refine go_callV (vs := [aI v2]) (stk := [aI (v1 * (10 : Int32))]) (o1 := (some (aI x2), h)) mk_X10_byteAt sv_X10_number_38 cl_X10 rfl dX10_number_21 c2 rfl rfl (Nat.le_of_ble_eq_true rfl) (Nat.le_of_ble_eq_true rfl) (ok_X10_byteAt ex2) (show Go M_X10_number (some (aI r), h) 24 [some (aA v0), some (aI v1), some (aI v2)] [aI x2, aI (v1 * (10 : Int32))] h from ?_)
    refine go_iadd dX10_number_24 ?_
    refine go_bipush (v := (48 : Int32)) dX10_number_25 rfl ?_
    refine go_isub dX10_number_27 ?_
    refine go_istoren (loc2 := [some (aA v0), some (aI (((v1 * (10 : Int32)) + x2) - (48 : Int32))), some (aI v2)]) dX10_number_28 rfl (by decide) rfl ?_
    refine go_iinc (v := (v2 + (1 : Int32))) (loc2 := [some (aA v0), some (aI (((v1 * (10 : Int32)) + x2) - (48 : Int32))), some (aI (v2 + (1 : Int32)))]) dX10_number_29 rfl rfl (by decide) rfl ?_
    refine go_goto (tgt := 7) dX10_number_32 (by decide) ?_
    exact Hk (((v1 * (10 : Int32)) + x2) - (48 : Int32)) (v2 + (1 : Int32)) H
def l_X10_number_7 (v0 : Nat) (h : Hp) (v1 : Int32) (v2 : Int32) : Option Int32 := loopK FUEL (fun (k : Int32 × Int32 → Option Int32) (s : Int32 × Int32) => b_X10_number_7 v0 h (fun v1q v2q => k (v1q, v2q)) s.1 s.2) (v1, v2)
theorem okl_X10_number_7 {r : Int32} (v0 : Nat) (h : Hp) (v1 : Int32) (v2 : Int32) (H : l_X10_number_7 v0 h v1 v2 = some r) : Go M_X10_number (some (aI r), h) 7 [some (aA v0), some (aI v1), some (aI v2)] [] h := by
  unfold l_X10_number_7 at H
  exact go_loop (σ := Int32 × Int32) (body := (fun (k : Int32 × Int32 → Option Int32) (s : Int32 × Int32) => b_X10_number_7 v0 h (fun v1q v2q => k (v1q, v2q)) s.1 s.2)) (fun s => [some (aA v0), some (aI s.1), some (aI s.2)]) (fun s => h) (fun k s Hk H => okb_X10_number_7 v0 h (fun v1q v2q => k (v1q, v2q)) s.1 s.2  (fun v1q v2q H => Hk (v1q, v2q) H) H) FUEL (v1, v2) H
def m_X10_number (v0 : Nat) (h : Hp) : Option Int32 :=
  (gfI h v0 10 3).bind fun x1 => l_X10_number_7 v0 h (0 : Int32) x1
set_option maxRecDepth 20000 in
theorem ok_X10_number {r : Int32} {v0 : Nat} {h : Hp} (H : m_X10_number v0 h = some r) : Ev M_X10_number [aA v0] h (some (aI r), h) := by
  show Go M_X10_number (some (aI r), h) 0 [some (aA v0), none, none] [] h
  unfold m_X10_number at H
  refine go_iconst (v := (0 : Int32)) dX10_number_0 rfl ?_
  refine go_istoren (loc2 := [some (aA v0), some (aI (0 : Int32)), none]) dX10_number_1 rfl (by decide) rfl ?_
  refine go_aloadn dX10_number_2 rfl ?_
  refine gm_getI fd_X10_20 dX10_number_3 H (fun x1 H => ?_)
  refine go_istoren (loc2 := [some (aA v0), some (aI (0 : Int32)), some (aI x1)]) dX10_number_6 rfl (by decide) rfl ?_
  exact okl_X10_number_7 v0 h (0 : Int32) x1 H
/-! X4_takesNumber -/
def m_X4_takesNumber (v0 : Nat) (v1 : Nat) (h : Hp) : Option (Int32 × Hp) :=
  (gfI h v1 10 2).bind fun x1 => if x1 = (2 : Int32) then ((gfR h v0 5 5).bind fun x2 => (gfI h v0 5 2).bind fun x3 => (rc h v1 10 (m_X10_number v1 h)).bind fun x4 => (m_X5_set x2 x3 x4 h).bind fun x5 => (gfR x5 v0 5 6).bind fun x6 => (gfI x5 v0 5 2).bind fun x7 => (gfI x5 v1 10 3).bind fun x8 => (m_X5_set x6 x7 x8 x5).bind fun x9 => (gfI x9 v0 5 2).bind fun x10 => (pfI x9 v0 5 2 (x10 + (1 : Int32))).bind fun hh1 => (rc hh1 v1 10 (m_X10_next v1 hh1)).bind fun x11 => some ((1 : Int32), x11)) else some ((0 : Int32), h)
set_option maxRecDepth 20000 in
theorem ok_X4_takesNumber {r : (Int32 × Hp)} {v0 : Nat} {v1 : Nat} {h : Hp} (H : m_X4_takesNumber v0 v1 h = some r) : Ev M_X4_takesNumber [aA v0, aA v1] h (some (aI r.1), r.2) := by
  show Go M_X4_takesNumber (some (aI r.1), r.2) 0 [some (aA v0), some (aA v1)] [] h
  unfold m_X4_takesNumber at H
  refine go_aloadn dX4_takesNumber_0 rfl ?_
  refine gm_getI fd_X4_50 dX4_takesNumber_1 H (fun x1 H => ?_)
  refine go_iconst (v := (2 : Int32)) dX4_takesNumber_4 rfl ?_
  refine go_icmp_eq (tgt := 10) dX4_takesNumber_5 (by decide) (fun c1 => ?_) (fun c1 => ?_)
  · replace H := (gm_ite H).1 c1
    refine go_aloadn dX4_takesNumber_10 rfl ?_
    refine gm_getR fd_X4_29 dX4_takesNumber_11 H (fun x2 H => ?_)
    refine go_aloadn dX4_takesNumber_14 rfl ?_
    refine gm_getI fd_X4_20 dX4_takesNumber_15 H (fun x3 H => ?_)
    refine go_aloadn dX4_takesNumber_18 rfl ?_
    obtain ⟨c2, x4, ex4, H⟩ := gm_rc H
    refine go_callV (vs := []) (stk := [aI x3, aA x2]) (o1 := (some (aI x4), h)) mk_X10_number sv_X4_takesNumber_78 cl_X10 rfl dX4_takesNumber_19 c2 rfl rfl (Nat.le_of_ble_eq_true rfl) (Nat.le_of_ble_eq_true rfl) (ok_X10_number ex4) (show Go M_X4_takesNumber (some (aI r.1), r.2) 22 [some (aA v0), some (aA v1)] [aI x4, aI x3, aA x2] h from ?_)
    obtain ⟨x5, ex5, H⟩ := bind_some H
    refine go_callS (vs := [aA x2, aI x3, aI x4]) (stk := []) (o1 := (none, x5)) mk_X5_set ss_X4_takesNumber_81 dX4_takesNumber_22 rfl rfl (Nat.le_of_ble_eq_true rfl) (Nat.le_of_ble_eq_true rfl) (ok_X5_set ex5) (show Go M_X4_takesNumber (some (aI r.1), r.2) 25 [some (aA v0), some (aA v1)] [] x5 from ?_)
    refine go_aloadn dX4_takesNumber_25 rfl ?_
    refine gm_getR fd_X4_33 dX4_takesNumber_26 H (fun x6 H => ?_)
    refine go_aloadn dX4_takesNumber_29 rfl ?_
    refine gm_getI fd_X4_20 dX4_takesNumber_30 H (fun x7 H => ?_)
    refine go_aloadn dX4_takesNumber_33 rfl ?_
    refine gm_getI fd_X4_47 dX4_takesNumber_34 H (fun x8 H => ?_)
    obtain ⟨x9, ex9, H⟩ := bind_some H
    refine go_callS (vs := [aA x6, aI x7, aI x8]) (stk := []) (o1 := (none, x9)) mk_X5_set ss_X4_takesNumber_81 dX4_takesNumber_37 rfl rfl (Nat.le_of_ble_eq_true rfl) (Nat.le_of_ble_eq_true rfl) (ok_X5_set ex9) (show Go M_X4_takesNumber (some (aI r.1), r.2) 40 [some (aA v0), some (aA v1)] [] x9 from ?_)
    refine go_aloadn dX4_takesNumber_40 rfl ?_
    refine go_dupA dX4_takesNumber_41 ?_
    refine gm_getI fd_X4_20 dX4_takesNumber_42 H (fun x10 H => ?_)
    refine go_iconst (v := (1 : Int32)) dX4_takesNumber_45 rfl ?_
    refine go_iadd dX4_takesNumber_46 ?_
    refine gm_putI fd_X4_20 (Or.inl rfl) dX4_takesNumber_47 H (fun hh1 H => ?_)
    refine go_aloadn dX4_takesNumber_50 rfl ?_
    obtain ⟨c5, x11, ex11, H⟩ := gm_rc H
    refine go_callV (vs := []) (stk := []) (o1 := (none, x11)) mk_X10_next sv_X4_takesNumber_42 cl_X10 rfl dX4_takesNumber_51 c5 rfl rfl (Nat.le_of_ble_eq_true rfl) (Nat.le_of_ble_eq_true rfl) (ok_X10_next ex11) (show Go M_X4_takesNumber (some (aI r.1), r.2) 54 [some (aA v0), some (aA v1)] [] x11 from ?_)
    refine go_iconst (v := (1 : Int32)) dX4_takesNumber_54 rfl ?_
    obtain rfl := Option.some.inj H
    exact go_ireturn (x := (1 : Int32)) dX4_takesNumber_55 (tyI_bool rfl (by decide))
  · replace H := (gm_ite H).2 c1
    refine go_iconst (v := (0 : Int32)) dX4_takesNumber_8 rfl ?_
    obtain rfl := Option.some.inj H
    exact go_ireturn (x := (0 : Int32)) dX4_takesNumber_9 (tyI_bool rfl (by decide))
/-! X10_isWord -/
def j_X10_isWord_26  (s0 : Int32) (h : Hp) : Option Int32 :=
  (zb s0).bind fun x1 => some x1
set_option maxRecDepth 20000 in
theorem okj_X10_isWord_26 {r : Int32}  (s0 : Int32) (h : Hp) (H : j_X10_isWord_26 s0 h = some r) : Go M_X10_isWord (some (aI r), h) 26 [none] [aI s0] h := by
  unfold j_X10_isWord_26 at H
  obtain ⟨hz, H⟩ := gm_zb H
  obtain rfl := Option.some.inj H
  exact go_ireturn (x := s0) dX10_isWord_26 (tyI_bool rfl hz)
def m_X10_isWord (v0 : Nat) (h : Hp) : Option Int32 :=
  (gfI h v0 10 2).bind fun x1 => if ¬ x1 = (1 : Int32) then j_X10_isWord_26 (0 : Int32) h else (gfI h v0 10 4).bind fun x2 => (gfI h v0 10 3).bind fun x3 => j_X10_isWord_26 (if (4 : Int32) < (x2 - x3) then (0 : Int32) else (1 : Int32)) h
set_option maxRecDepth 20000 in
theorem ok_X10_isWord {r : Int32} {v0 : Nat} {h : Hp} (H : m_X10_isWord v0 h = some r) : Ev M_X10_isWord [aA v0] h (some (aI r), h) := by
  show Go M_X10_isWord (some (aI r), h) 0 [some (aA v0)] [] h
  unfold m_X10_isWord at H
  refine go_aloadn dX10_isWord_0 rfl ?_
  refine gm_getI fd_X10_17 dX10_isWord_1 H (fun x1 H => ?_)
  refine go_iconst (v := (1 : Int32)) dX10_isWord_4 rfl ?_
  refine go_icmp_ne (tgt := 25) dX10_isWord_5 (by decide) (fun c1 => ?_) (fun c1 => ?_)
  · replace H := (gm_ite H).1 c1
    refine go_iconst (v := (0 : Int32)) dX10_isWord_25 rfl ?_
    refine go_mask [false] (loc' := [none]) rfl ?_
    exact okj_X10_isWord_26 (0 : Int32) h  H
  · replace H := (gm_ite H).2 c1
    refine go_aloadn dX10_isWord_8 rfl ?_
    refine gm_getI fd_X10_23 dX10_isWord_9 H (fun x2 H => ?_)
    refine go_aloadn dX10_isWord_12 rfl ?_
    refine gm_getI fd_X10_20 dX10_isWord_13 H (fun x3 H => ?_)
    refine go_isub dX10_isWord_16 ?_
    refine go_iconst (v := (4 : Int32)) dX10_isWord_17 rfl ?_
    refine go_icmp_gt (tgt := 25) dX10_isWord_18 (by decide) (fun c2 => ?_) (fun c2 => ?_)
    · rw [if_pos c2] at H
      refine go_iconst (v := (0 : Int32)) dX10_isWord_25 rfl ?_
      refine go_mask [false] (loc' := [none]) rfl ?_
      exact okj_X10_isWord_26 (0 : Int32) h  H
    · rw [if_neg c2] at H
      refine go_iconst (v := (1 : Int32)) dX10_isWord_21 rfl ?_
      refine go_goto (tgt := 26) dX10_isWord_22 (by decide) ?_
      refine go_mask [false] (loc' := [none]) rfl ?_
      exact okj_X10_isWord_26 (1 : Int32) h  H
/-! X10_spelling -/
def j_X10_spelling_45 (v0 : Nat) (v2 : Int32) (s0 : Int32) (s1 : Int32) (h : Hp) (k : Int32 → Int32 → Option Int32) : Option Int32 :=
  k (s0 + s1) (v2 + (1 : Int32))
set_option maxRecDepth 20000 in
theorem okj_X10_spelling_45 {r : Int32} (v0 : Nat) (v2 : Int32) (s0 : Int32) (s1 : Int32) (h : Hp) (k : Int32 → Int32 → Option Int32) (Hk : ∀ (v1q : Int32) (v2q : Int32), k v1q v2q = some r → Go M_X10_spelling (some (aI r), h) 4 [some (aA v0), some (aI v1q), some (aI v2q)] [] h) (H : j_X10_spelling_45 v0 v2 s0 s1 h k = some r) : Go M_X10_spelling (some (aI r), h) 45 [some (aA v0), none, some (aI v2)] [aI s1, aI s0] h := by
  unfold j_X10_spelling_45 at H
  refine go_iadd dX10_spelling_45 ?_
  refine go_istoren (loc2 := [some (aA v0), some (aI (s0 + s1)), some (aI v2)]) dX10_spelling_46 rfl (by decide) rfl ?_
  refine go_iinc (v := (v2 + (1 : Int32))) (loc2 := [some (aA v0), some (aI (s0 + s1)), some (aI (v2 + (1 : Int32)))]) dX10_spelling_47 rfl rfl (by decide) rfl ?_
  refine go_goto (tgt := 4) dX10_spelling_50 (by decide) ?_
  exact Hk (s0 + s1) (v2 + (1 : Int32)) H
def b_X10_spelling_4 (v0 : Nat) (h : Hp) (k : Int32 → Int32 → Option Int32) (v1 : Int32) (v2 : Int32) : Option Int32 :=
  if (4 : Int32) ≤ v2 then (some v1) else (gfI h v0 10 3).bind fun x1 => (gfI h v0 10 4).bind fun x2 => if x2 ≤ (x1 + v2) then j_X10_spelling_45 v0 v2 (v1 * (27 : Int32)) (0 : Int32) h k else (gfI h v0 10 3).bind fun x3 => (rc h v0 10 (m_X10_byteAt v0 (x3 + v2) h)).bind fun x4 => j_X10_spelling_45 v0 v2 (v1 * (27 : Int32)) ((x4 - (97 : Int32)) + (1 : Int32)) h k
set_option maxRecDepth 20000 in
theorem okb_X10_spelling_4 {r : Int32} (v0 : Nat) (h : Hp) (k : Int32 → Int32 → Option Int32) (v1 : Int32) (v2 : Int32) (Hk : ∀ (v1q : Int32) (v2q : Int32), k v1q v2q = some r → Go M_X10_spelling (some (aI r), h) 4 [some (aA v0), some (aI v1q), some (aI v2q)] [] h) (H : b_X10_spelling_4 v0 h k v1 v2 = some r) : Go M_X10_spelling (some (aI r), h) 4 [some (aA v0), some (aI v1), some (aI v2)] [] h := by
  unfold b_X10_spelling_4 at H
  refine go_iloadn dX10_spelling_4 rfl ?_
  refine go_iconst (v := (4 : Int32)) dX10_spelling_5 rfl ?_
  refine go_icmp_ge (tgt := 53) dX10_spelling_6 (by decide) (fun c1 => ?_) (fun c1 => ?_)
  · replace H := (gm_ite H).1 c1
    refine go_iloadn dX10_spelling_53 rfl ?_
    obtain rfl := Option.some.inj H
    exact go_ireturn dX10_spelling_54 (tyI_int rfl)
  · replace H := (gm_ite H).2 c1
    refine go_iloadn dX10_spelling_9 rfl ?_
    refine go_bipush (v := (27 : Int32)) dX10_spelling_10 rfl ?_
    refine go_imul dX10_spelling_12 ?_
    refine go_aloadn dX10_spelling_13 rfl ?_
    refine gm_getI fd_X10_20 dX10_spelling_14 H (fun x1 H => ?_)
    refine go_iloadn dX10_spelling_17 rfl ?_
    refine go_iadd dX10_spelling_18 ?_
    refine go_aloadn dX10_spelling_19 rfl ?_
    refine gm_getI fd_X10_23 dX10_spelling_20 H (fun x2 H => ?_)
    refine go_icmp_ge (tgt := 44) dX10_spelling_23 (by decide) (fun c2 => ?_) (fun c2 => ?_)
    · replace H := (gm_ite H).1 c2
      refine go_iconst (v := (0 : Int32)) dX10_spelling_44 rfl ?_
      refine go_mask [true, false, true] (loc' := [some (aA v0), none, some (aI v2)]) rfl ?_
      exact okj_X10_spelling_45 v0 v2 (v1 * (27 : Int32)) (0 : Int32) h k Hk H
    · replace H := (gm_ite H).2 c2
      refine go_aloadn dX10_spelling_26 rfl ?_
      refine go_aloadn dX10_spelling_27 rfl ?_
      refine gm_getI fd_X10_20 dX10_spelling_28 H (fun x3 H => ?_)
      refine go_iloadn dX10_spelling_31 rfl ?_
      refine go_iadd dX10_spelling_32 ?_
      obtain ⟨c3, x4, ex4, H⟩ := gm_rc H
      refine go_callV (vs := [aI (x3 + v2)]) (stk := [aI (v1 * (27 : Int32))]) (o1 := (some (aI x4), h)) mk_X10_byteAt sv_X10_spelling_38 cl_X10 rfl dX10_spelling_33 c3 rfl rfl (Nat.le_of_ble_eq_true rfl) (Nat.le_of_ble_eq_true rfl) (ok_X10_byteAt ex4) (show Go M_X10_spelling (some (aI r), h) 36 [some (aA v0), some (aI v1), some (aI v2)] [aI x4, aI (v1 * (27 : Int32))] h from ?_)
      refine go_bipush (v := (97 : Int32)) dX10_spelling_36 rfl ?_
      refine go_isub dX10_spelling_38 ?_
      refine go_iconst (v := (1 : Int32)) dX10_spelling_39 rfl ?_
      refine go_iadd dX10_spelling_40 ?_
      refine go_goto (tgt := 45) dX10_spelling_41 (by decide) ?_
      refine go_mask [true, false, true] (loc' := [some (aA v0), none, some (aI v2)]) rfl ?_
      exact okj_X10_spelling_45 v0 v2 (v1 * (27 : Int32)) ((x4 - (97 : Int32)) + (1 : Int32)) h k Hk H
def l_X10_spelling_4 (v0 : Nat) (h : Hp) (v1 : Int32) (v2 : Int32) : Option Int32 := loopK FUEL (fun (k : Int32 × Int32 → Option Int32) (s : Int32 × Int32) => b_X10_spelling_4 v0 h (fun v1q v2q => k (v1q, v2q)) s.1 s.2) (v1, v2)
theorem okl_X10_spelling_4 {r : Int32} (v0 : Nat) (h : Hp) (v1 : Int32) (v2 : Int32) (H : l_X10_spelling_4 v0 h v1 v2 = some r) : Go M_X10_spelling (some (aI r), h) 4 [some (aA v0), some (aI v1), some (aI v2)] [] h := by
  unfold l_X10_spelling_4 at H
  exact go_loop (σ := Int32 × Int32) (body := (fun (k : Int32 × Int32 → Option Int32) (s : Int32 × Int32) => b_X10_spelling_4 v0 h (fun v1q v2q => k (v1q, v2q)) s.1 s.2)) (fun s => [some (aA v0), some (aI s.1), some (aI s.2)]) (fun s => h) (fun k s Hk H => okb_X10_spelling_4 v0 h (fun v1q v2q => k (v1q, v2q)) s.1 s.2  (fun v1q v2q H => Hk (v1q, v2q) H) H) FUEL (v1, v2) H
def m_X10_spelling (v0 : Nat) (h : Hp) : Option Int32 :=
  l_X10_spelling_4 v0 h (0 : Int32) (0 : Int32)
set_option maxRecDepth 20000 in
theorem ok_X10_spelling {r : Int32} {v0 : Nat} {h : Hp} (H : m_X10_spelling v0 h = some r) : Ev M_X10_spelling [aA v0] h (some (aI r), h) := by
  show Go M_X10_spelling (some (aI r), h) 0 [some (aA v0), none, none] [] h
  unfold m_X10_spelling at H
  refine go_iconst (v := (0 : Int32)) dX10_spelling_0 rfl ?_
  refine go_istoren (loc2 := [some (aA v0), some (aI (0 : Int32)), none]) dX10_spelling_1 rfl (by decide) rfl ?_
  refine go_iconst (v := (0 : Int32)) dX10_spelling_2 rfl ?_
  refine go_istoren (loc2 := [some (aA v0), some (aI (0 : Int32)), some (aI (0 : Int32))]) dX10_spelling_3 rfl (by decide) rfl ?_
  exact okl_X10_spelling_4 v0 h (0 : Int32) (0 : Int32) H
/-! X4_takesWord -/
def j_X4_takesWord_33 (v0 : Nat) (v1 : Nat)  (h : Hp) : Option (Int32 × Hp) :=
  (gfR h v0 5 7).bind fun x1 => (gfI h v0 5 3).bind fun x2 => (rc h v1 10 (m_X10_spelling v1 h)).bind fun x3 => (m_X5_set x1 x2 x3 h).bind fun x4 => (gfR x4 v0 5 8).bind fun x5 => (gfI x4 v0 5 3).bind fun x6 => (gfI x4 v1 10 3).bind fun x7 => (m_X5_set x5 x6 x7 x4).bind fun x8 => (gfI x8 v0 5 3).bind fun x9 => (pfI x8 v0 5 3 (x9 + (1 : Int32))).bind fun hh1 => (rc hh1 v1 10 (m_X10_next v1 hh1)).bind fun x10 => some ((1 : Int32), x10)
set_option maxRecDepth 20000 in
theorem okj_X4_takesWord_33 {r : (Int32 × Hp)} (v0 : Nat) (v1 : Nat)  (h : Hp) (H : j_X4_takesWord_33 v0 v1 h = some r) : Go M_X4_takesWord (some (aI r.1), r.2) 33 [some (aA v0), some (aA v1)] [] h := by
  unfold j_X4_takesWord_33 at H
  refine go_aloadn dX4_takesWord_33 rfl ?_
  refine gm_getR fd_X4_36 dX4_takesWord_34 H (fun x1 H => ?_)
  refine go_aloadn dX4_takesWord_37 rfl ?_
  refine gm_getI fd_X4_23 dX4_takesWord_38 H (fun x2 H => ?_)
  refine go_aloadn dX4_takesWord_41 rfl ?_
  obtain ⟨c1, x3, ex3, H⟩ := gm_rc H
  refine go_callV (vs := []) (stk := [aI x2, aA x1]) (o1 := (some (aI x3), h)) mk_X10_spelling sv_X4_takesWord_91 cl_X10 rfl dX4_takesWord_42 c1 rfl rfl (Nat.le_of_ble_eq_true rfl) (Nat.le_of_ble_eq_true rfl) (ok_X10_spelling ex3) (show Go M_X4_takesWord (some (aI r.1), r.2) 45 [some (aA v0), some (aA v1)] [aI x3, aI x2, aA x1] h from ?_)
  obtain ⟨x4, ex4, H⟩ := bind_some H
  refine go_callS (vs := [aA x1, aI x2, aI x3]) (stk := []) (o1 := (none, x4)) mk_X5_set ss_X4_takesWord_81 dX4_takesWord_45 rfl rfl (Nat.le_of_ble_eq_true rfl) (Nat.le_of_ble_eq_true rfl) (ok_X5_set ex4) (show Go M_X4_takesWord (some (aI r.1), r.2) 48 [some (aA v0), some (aA v1)] [] x4 from ?_)
  refine go_aloadn dX4_takesWord_48 rfl ?_
  refine gm_getR fd_X4_39 dX4_takesWord_49 H (fun x5 H => ?_)
  refine go_aloadn dX4_takesWord_52 rfl ?_
  refine gm_getI fd_X4_23 dX4_takesWord_53 H (fun x6 H => ?_)
  refine go_aloadn dX4_takesWord_56 rfl ?_
  refine gm_getI fd_X4_47 dX4_takesWord_57 H (fun x7 H => ?_)
  obtain ⟨x8, ex8, H⟩ := bind_some H
  refine go_callS (vs := [aA x5, aI x6, aI x7]) (stk := []) (o1 := (none, x8)) mk_X5_set ss_X4_takesWord_81 dX4_takesWord_60 rfl rfl (Nat.le_of_ble_eq_true rfl) (Nat.le_of_ble_eq_true rfl) (ok_X5_set ex8) (show Go M_X4_takesWord (some (aI r.1), r.2) 63 [some (aA v0), some (aA v1)] [] x8 from ?_)
  refine go_aloadn dX4_takesWord_63 rfl ?_
  refine go_dupA dX4_takesWord_64 ?_
  refine gm_getI fd_X4_23 dX4_takesWord_65 H (fun x9 H => ?_)
  refine go_iconst (v := (1 : Int32)) dX4_takesWord_68 rfl ?_
  refine go_iadd dX4_takesWord_69 ?_
  refine gm_putI fd_X4_23 (Or.inl rfl) dX4_takesWord_70 H (fun hh1 H => ?_)
  refine go_aloadn dX4_takesWord_73 rfl ?_
  obtain ⟨c4, x10, ex10, H⟩ := gm_rc H
  refine go_callV (vs := []) (stk := []) (o1 := (none, x10)) mk_X10_next sv_X4_takesWord_42 cl_X10 rfl dX4_takesWord_74 c4 rfl rfl (Nat.le_of_ble_eq_true rfl) (Nat.le_of_ble_eq_true rfl) (ok_X10_next ex10) (show Go M_X4_takesWord (some (aI r.1), r.2) 77 [some (aA v0), some (aA v1)] [] x10 from ?_)
  refine go_iconst (v := (1 : Int32)) dX4_takesWord_77 rfl ?_
  obtain rfl := Option.some.inj H
  exact go_ireturn (x := (1 : Int32)) dX4_takesWord_78 (tyI_bool rfl (by decide))
def m_X4_takesWord (v0 : Nat) (v1 : Nat) (h : Hp) : Option (Int32 × Hp) :=
  (gfI h v1 10 2).bind fun x1 => if x1 = (1 : Int32) then ((rc h v1 10 (m_X10_isWord v1 h)).bind fun x2 => if ¬ x2 = 0 then j_X4_takesWord_33 v0 v1 h else (gfI h v0 5 4).bind fun x3 => if ¬ x3 = (-1 : Int32) then j_X4_takesWord_33 v0 v1 h else (gfI h v1 10 3).bind fun x4 => (pfI h v0 5 4 x4).bind fun hh1 => j_X4_takesWord_33 v0 v1 hh1) else some ((0 : Int32), h)
set_option maxRecDepth 20000 in
theorem ok_X4_takesWord {r : (Int32 × Hp)} {v0 : Nat} {v1 : Nat} {h : Hp} (H : m_X4_takesWord v0 v1 h = some r) : Ev M_X4_takesWord [aA v0, aA v1] h (some (aI r.1), r.2) := by
  show Go M_X4_takesWord (some (aI r.1), r.2) 0 [some (aA v0), some (aA v1)] [] h
  unfold m_X4_takesWord at H
  refine go_aloadn dX4_takesWord_0 rfl ?_
  refine gm_getI fd_X4_50 dX4_takesWord_1 H (fun x1 H => ?_)
  refine go_iconst (v := (1 : Int32)) dX4_takesWord_4 rfl ?_
  refine go_icmp_eq (tgt := 10) dX4_takesWord_5 (by decide) (fun c1 => ?_) (fun c1 => ?_)
  · replace H := (gm_ite H).1 c1
    refine go_aloadn dX4_takesWord_10 rfl ?_
    obtain ⟨c2, x2, ex2, H⟩ := gm_rc H
    refine go_callV (vs := []) (stk := []) (o1 := (some (aI x2), h)) mk_X10_isWord sv_X4_takesWord_87 cl_X10 rfl dX4_takesWord_11 c2 rfl rfl (Nat.le_of_ble_eq_true rfl) (Nat.le_of_ble_eq_true rfl) (ok_X10_isWord ex2) (show Go M_X4_takesWord (some (aI r.1), r.2) 14 [some (aA v0), some (aA v1)] [aI x2] h from ?_)
    refine go_if_ne (tgt := 33) dX4_takesWord_14 (by decide) (fun c3 => ?_) (fun c3 => ?_)
    · replace H := (gm_ite H).1 c3
      exact okj_X4_takesWord_33 v0 v1 h  H
    · replace H := (gm_ite H).2 c3
      refine go_aloadn dX4_takesWord_17 rfl ?_
      refine gm_getI fd_X4_26 dX4_takesWord_18 H (fun x3 H => ?_)
      refine go_iconst (v := (-1 : Int32)) dX4_takesWord_21 rfl ?_
      refine go_icmp_ne (tgt := 33) dX4_takesWord_22 (by decide) (fun c4 => ?_) (fun c4 => ?_)
      · replace H := (gm_ite H).1 c4
        exact okj_X4_takesWord_33 v0 v1 h  H
      · replace H := (gm_ite H).2 c4
        refine go_aloadn dX4_takesWord_25 rfl ?_
        refine go_aloadn dX4_takesWord_26 rfl ?_
        refine gm_getI fd_X4_47 dX4_takesWord_27 H (fun x4 H => ?_)
        refine gm_putI fd_X4_26 (Or.inl rfl) dX4_takesWord_30 H (fun hh1 H => ?_)
        exact okj_X4_takesWord_33 v0 v1 hh1  H
  · replace H := (gm_ite H).2 c1
    refine go_iconst (v := (0 : Int32)) dX4_takesWord_8 rfl ?_
    obtain rfl := Option.some.inj H
    exact go_ireturn (x := (0 : Int32)) dX4_takesWord_9 (tyI_bool rfl (by decide))
/-! X4_read -/
def j_X4_read_111 (v0 : Nat) (v1 : Nat) (v3 : Nat) (v4 : Int32)  (h : Hp) (K98 : Hp → Option (Int32 × Hp)) (K117 : Hp → Option (Int32 × Hp)) (k : Int32 → Hp → Option (Int32 × Hp)) : Option (Int32 × Hp) :=
  k (v4 + (1 : Int32)) h
set_option maxRecDepth 20000 in
theorem okj_X4_read_111 {r : (Int32 × Hp)} (v0 : Nat) (v1 : Nat) (v3 : Nat) (v4 : Int32)  (h : Hp) (K98 : Hp → Option (Int32 × Hp)) (K117 : Hp → Option (Int32 × Hp)) (k : Int32 → Hp → Option (Int32 × Hp)) (HK98 : ∀   (hq : Hp), K98 hq = some r → Go M_X4_read (some (aI r.1), r.2) 98 [none, none, none, none, none, none] [] hq) (HK117 : ∀   (hq : Hp), K117 hq = some r → Go M_X4_read (some (aI r.1), r.2) 117 [some (aA v0), some (aA v1), none, none, none, none] [] hq) (Hk : ∀ (v4q : Int32) (hq : Hp), k v4q hq = some r → Go M_X4_read (some (aI r.1), r.2) 70 [some (aA v0), some (aA v1), none, some (aA v3), some (aI v4q), none] [] hq) (H : j_X4_read_111 v0 v1 v3 v4 h K98 K117 k = some r) : Go M_X4_read (some (aI r.1), r.2) 111 [some (aA v0), some (aA v1), none, some (aA v3), some (aI v4), none] [] h := by
  unfold j_X4_read_111 at H
  refine go_iinc (v := (v4 + (1 : Int32))) (loc2 := [some (aA v0), some (aA v1), none, some (aA v3), some (aI (v4 + (1 : Int32))), none]) dX4_read_111 rfl rfl (by decide) rfl ?_
  refine go_goto (tgt := 70) dX4_read_114 (by decide) ?_
  exact Hk (v4 + (1 : Int32)) h H
def b_X4_read_70 (v0 : Nat) (v1 : Nat) (v3 : Nat) (K98 : Hp → Option (Int32 × Hp)) (K117 : Hp → Option (Int32 × Hp)) (k : Int32 → Hp → Option (Int32 × Hp)) (v4 : Int32) (h : Hp) : Option (Int32 × Hp) :=
  (strLen v3).bind fun x1 => if x1 ≤ v4 then K117 h else (strCh v3 v4).bind fun x2 => if ¬ x2 = (110 : Int32) then ((rc h v0 5 (m_X4_takesWord v0 v1 h)).bind fun x3 => if ¬ x3.1 = 0 then j_X4_read_111 v0 v1 v3 v4 x3.2 K98 K117 k else some ((1 : Int32), x3.2)) else (rc h v0 5 (m_X4_takesNumber v0 v1 h)).bind fun x4 => if ¬ x4.1 = 0 then j_X4_read_111 v0 v1 v3 v4 x4.2 K98 K117 k else K98 x4.2
set_option maxRecDepth 20000 in
theorem okb_X4_read_70 {r : (Int32 × Hp)} (v0 : Nat) (v1 : Nat) (v3 : Nat) (K98 : Hp → Option (Int32 × Hp)) (K117 : Hp → Option (Int32 × Hp)) (k : Int32 → Hp → Option (Int32 × Hp)) (v4 : Int32) (h : Hp) (HK98 : ∀   (hq : Hp), K98 hq = some r → Go M_X4_read (some (aI r.1), r.2) 98 [none, none, none, none, none, none] [] hq) (HK117 : ∀   (hq : Hp), K117 hq = some r → Go M_X4_read (some (aI r.1), r.2) 117 [some (aA v0), some (aA v1), none, none, none, none] [] hq) (Hk : ∀ (v4q : Int32) (hq : Hp), k v4q hq = some r → Go M_X4_read (some (aI r.1), r.2) 70 [some (aA v0), some (aA v1), none, some (aA v3), some (aI v4q), none] [] hq) (H : b_X4_read_70 v0 v1 v3 K98 K117 k v4 h = some r) : Go M_X4_read (some (aI r.1), r.2) 70 [some (aA v0), some (aA v1), none, some (aA v3), some (aI v4), none] [] h := by
  unfold b_X4_read_70 at H
  refine go_iload dX4_read_70 rfl ?_
  refine go_aloadn dX4_read_72 rfl ?_
  refine gm_strLen sv_X4_read_61 dX4_read_73 rfl (Nat.le_of_ble_eq_true rfl) H (fun x1 H => ?_)
  refine go_icmp_ge (tgt := 117) dX4_read_76 (by decide) (fun c1 => ?_) (fun c1 => ?_)
  · replace H := (gm_ite H).1 c1
    refine go_mask [true, true, false, false, false, false] (loc' := [some (aA v0), some (aA v1), none, none, none, none]) rfl ?_
    exact HK117 h H
  · replace H := (gm_ite H).2 c1
    refine go_aloadn dX4_read_79 rfl ?_
    refine go_iload dX4_read_80 rfl ?_
    refine gm_strCh sv_X4_read_67 dX4_read_82 rfl (Nat.le_of_ble_eq_true rfl) H (fun x2 H => ?_)
    refine go_bipush (v := (110 : Int32)) dX4_read_85 rfl ?_
    refine go_icmp_ne (tgt := 101) dX4_read_87 (by decide) (fun c2 => ?_) (fun c2 => ?_)
    · replace H := (gm_ite H).1 c2
      refine go_aloadn dX4_read_101 rfl ?_
      refine go_aloadn dX4_read_102 rfl ?_
      obtain ⟨c3, x3, ex3, H⟩ := gm_rc H
      refine go_callV (vs := [aA v1]) (stk := []) (o1 := (some (aI x3.1), x3.2)) mk_X4_takesWord sv_X4_read_75 cl_X4 rfl dX4_read_103 c3 rfl rfl (Nat.le_of_ble_eq_true rfl) (Nat.le_of_ble_eq_true rfl) (ok_X4_takesWord ex3) (show Go M_X4_read (some (aI r.1), r.2) 106 [some (aA v0), some (aA v1), none, some (aA v3), some (aI v4), none] [aI x3.1] x3.2 from ?_)
      refine go_if_ne (tgt := 111) dX4_read_106 (by decide) (fun c4 => ?_) (fun c4 => ?_)
      · replace H := (gm_ite H).1 c4
        exact okj_X4_read_111 v0 v1 v3 v4 x3.2 K98 K117 k HK98 HK117 Hk H
      · replace H := (gm_ite H).2 c4
        refine go_iconst (v := (1 : Int32)) dX4_read_109 rfl ?_
        obtain rfl := Option.some.inj H
        exact go_ireturn dX4_read_110 (tyI_int rfl)
    · replace H := (gm_ite H).2 c2
      refine go_aloadn dX4_read_90 rfl ?_
      refine go_aloadn dX4_read_91 rfl ?_
      obtain ⟨c5, x4, ex4, H⟩ := gm_rc H
      refine go_callV (vs := [aA v1]) (stk := []) (o1 := (some (aI x4.1), x4.2)) mk_X4_takesNumber sv_X4_read_71 cl_X4 rfl dX4_read_92 c5 rfl rfl (Nat.le_of_ble_eq_true rfl) (Nat.le_of_ble_eq_true rfl) (ok_X4_takesNumber ex4) (show Go M_X4_read (some (aI r.1), r.2) 95 [some (aA v0), some (aA v1), none, some (aA v3), some (aI v4), none] [aI x4.1] x4.2 from ?_)
      refine go_if_ne (tgt := 111) dX4_read_95 (by decide) (fun c6 => ?_) (fun c6 => ?_)
      · replace H := (gm_ite H).1 c6
        exact okj_X4_read_111 v0 v1 v3 v4 x4.2 K98 K117 k HK98 HK117 Hk H
      · replace H := (gm_ite H).2 c6
        refine go_mask [false, false, false, false, false, false] (loc' := [none, none, none, none, none, none]) rfl ?_
        exact HK98 x4.2 H
def l_X4_read_70 (v0 : Nat) (v1 : Nat) (v3 : Nat) (K98 : Hp → Option (Int32 × Hp)) (K117 : Hp → Option (Int32 × Hp)) (v4 : Int32) (h : Hp) : Option (Int32 × Hp) := loopK FUEL (fun (k : Int32 × Hp → Option (Int32 × Hp)) (s : Int32 × Hp) => b_X4_read_70 v0 v1 v3 K98 K117 (fun v4q hq => k (v4q, hq)) s.1 s.2) (v4, h)
theorem okl_X4_read_70 {r : (Int32 × Hp)} (v0 : Nat) (v1 : Nat) (v3 : Nat) (K98 : Hp → Option (Int32 × Hp)) (K117 : Hp → Option (Int32 × Hp)) (v4 : Int32) (h : Hp) (HK98 : ∀   (hq : Hp), K98 hq = some r → Go M_X4_read (some (aI r.1), r.2) 98 [none, none, none, none, none, none] [] hq) (HK117 : ∀   (hq : Hp), K117 hq = some r → Go M_X4_read (some (aI r.1), r.2) 117 [some (aA v0), some (aA v1), none, none, none, none] [] hq) (H : l_X4_read_70 v0 v1 v3 K98 K117 v4 h = some r) : Go M_X4_read (some (aI r.1), r.2) 70 [some (aA v0), some (aA v1), none, some (aA v3), some (aI v4), none] [] h := by
  unfold l_X4_read_70 at H
  exact go_loop (σ := Int32 × Hp) (body := (fun (k : Int32 × Hp → Option (Int32 × Hp)) (s : Int32 × Hp) => b_X4_read_70 v0 v1 v3 K98 K117 (fun v4q hq => k (v4q, hq)) s.1 s.2)) (fun s => [some (aA v0), some (aA v1), none, some (aA v3), some (aI s.1), none]) (fun s => s.2) (fun k s Hk H => okb_X4_read_70 v0 v1 v3 K98 K117 (fun v4q hq => k (v4q, hq)) s.1 s.2 HK98 HK117 (fun v4q hq H => Hk (v4q, hq) H) H) FUEL (v4, h) H
def j_X4_read_98   (h : Hp) : Option (Int32 × Hp) :=
  some ((1 : Int32), h)
set_option maxRecDepth 20000 in
theorem okj_X4_read_98 {r : (Int32 × Hp)}   (h : Hp) (H : j_X4_read_98 h = some r) : Go M_X4_read (some (aI r.1), r.2) 98 [none, none, none, none, none, none] [] h := by
  unfold j_X4_read_98 at H
  refine go_goto (tgt := 109) dX4_read_98 (by decide) ?_
  refine go_iconst (v := (1 : Int32)) dX4_read_109 rfl ?_
  obtain rfl := Option.some.inj H
  exact go_ireturn dX4_read_110 (tyI_int rfl)
def b_X4_read_152 (v0 : Nat) (v1 : Nat) (K178 : Hp → Option (Int32 × Hp)) (k : Int32 → Int32 → Hp → Option (Int32 × Hp)) (v4 : Int32) (v5 : Int32) (h : Hp) : Option (Int32 × Hp) :=
  if (600 : Int32) ≤ v5 then K178 h else if v4 = 0 then K178 h else (rc h v0 5 (m_X4_takesWord v0 v1 h)).bind fun x1 => k x1.1 (v5 + (1 : Int32)) x1.2
set_option maxRecDepth 20000 in
theorem okb_X4_read_152 {r : (Int32 × Hp)} (v0 : Nat) (v1 : Nat) (K178 : Hp → Option (Int32 × Hp)) (k : Int32 → Int32 → Hp → Option (Int32 × Hp)) (v4 : Int32) (v5 : Int32) (h : Hp) (HK178 : ∀   (hq : Hp), K178 hq = some r → Go M_X4_read (some (aI r.1), r.2) 178 [none, some (aA v1), none, none, none, none] [] hq) (Hk : ∀ (v4q : Int32) (v5q : Int32) (hq : Hp), k v4q v5q hq = some r → Go M_X4_read (some (aI r.1), r.2) 152 [some (aA v0), some (aA v1), none, none, some (aI v4q), some (aI v5q)] [] hq) (H : b_X4_read_152 v0 v1 K178 k v4 v5 h = some r) : Go M_X4_read (some (aI r.1), r.2) 152 [some (aA v0), some (aA v1), none, none, some (aI v4), some (aI v5)] [] h := by
  unfold b_X4_read_152 at H
  refine go_iload dX4_read_152 rfl ?_
  refine go_sipush (v := (600 : Int32)) dX4_read_154 rfl ?_
  refine go_icmp_ge (tgt := 178) dX4_read_157 (by decide) (fun c1 => ?_) (fun c1 => ?_)
  · replace H := (gm_ite H).1 c1
    refine go_mask [false, true, false, false, false, false] (loc' := [none, some (aA v1), none, none, none, none]) rfl ?_
    exact HK178 h H
  · replace H := (gm_ite H).2 c1
    refine go_iload dX4_read_160 rfl ?_
    refine go_if_eq (tgt := 178) dX4_read_162 (by decide) (fun c2 => ?_) (fun c2 => ?_)
    · replace H := (gm_ite H).1 c2
      refine go_mask [false, true, false, false, false, false] (loc' := [none, some (aA v1), none, none, none, none]) rfl ?_
      exact HK178 h H
    · replace H := (gm_ite H).2 c2
      refine go_aloadn dX4_read_165 rfl ?_
      refine go_aloadn dX4_read_166 rfl ?_
      obtain ⟨c3, x1, ex1, H⟩ := gm_rc H
      refine go_callV (vs := [aA v1]) (stk := []) (o1 := (some (aI x1.1), x1.2)) mk_X4_takesWord sv_X4_read_75 cl_X4 rfl dX4_read_167 c3 rfl rfl (Nat.le_of_ble_eq_true rfl) (Nat.le_of_ble_eq_true rfl) (ok_X4_takesWord ex1) (show Go M_X4_read (some (aI r.1), r.2) 170 [some (aA v0), some (aA v1), none, none, some (aI v4), some (aI v5)] [aI x1.1] x1.2 from ?_)
      refine go_istore (loc2 := [some (aA v0), some (aA v1), none, none, some (aI x1.1), some (aI v5)]) dX4_read_170 (by decide) rfl ?_
      refine go_iinc (v := (v5 + (1 : Int32))) (loc2 := [some (aA v0), some (aA v1), none, none, some (aI x1.1), some (aI (v5 + (1 : Int32)))]) dX4_read_172 rfl rfl (by decide) rfl ?_
      refine go_goto (tgt := 152) dX4_read_175 (by decide) ?_
      exact Hk x1.1 (v5 + (1 : Int32)) x1.2 H
def l_X4_read_152 (v0 : Nat) (v1 : Nat) (K178 : Hp → Option (Int32 × Hp)) (v4 : Int32) (v5 : Int32) (h : Hp) : Option (Int32 × Hp) := loopK FUEL (fun (k : Int32 × Int32 × Hp → Option (Int32 × Hp)) (s : Int32 × Int32 × Hp) => b_X4_read_152 v0 v1 K178 (fun v4q v5q hq => k (v4q, v5q, hq)) s.1 s.2.1 s.2.2) (v4, v5, h)
theorem okl_X4_read_152 {r : (Int32 × Hp)} (v0 : Nat) (v1 : Nat) (K178 : Hp → Option (Int32 × Hp)) (v4 : Int32) (v5 : Int32) (h : Hp) (HK178 : ∀   (hq : Hp), K178 hq = some r → Go M_X4_read (some (aI r.1), r.2) 178 [none, some (aA v1), none, none, none, none] [] hq) (H : l_X4_read_152 v0 v1 K178 v4 v5 h = some r) : Go M_X4_read (some (aI r.1), r.2) 152 [some (aA v0), some (aA v1), none, none, some (aI v4), some (aI v5)] [] h := by
  unfold l_X4_read_152 at H
  exact go_loop (σ := Int32 × Int32 × Hp) (body := (fun (k : Int32 × Int32 × Hp → Option (Int32 × Hp)) (s : Int32 × Int32 × Hp) => b_X4_read_152 v0 v1 K178 (fun v4q v5q hq => k (v4q, v5q, hq)) s.1 s.2.1 s.2.2)) (fun s => [some (aA v0), some (aA v1), none, none, some (aI s.1), some (aI s.2.1)]) (fun s => s.2.2) (fun k s Hk H => okb_X4_read_152 v0 v1 K178 (fun v4q v5q hq => k (v4q, v5q, hq)) s.1 s.2.1 s.2.2 HK178 (fun v4q v5q hq H => Hk (v4q, v5q, hq) H) H) FUEL (v4, v5, h) H
def j_X4_read_191  (s0 : Int32) (h : Hp) : Option (Int32 × Hp) :=
  some (s0, h)
set_option maxRecDepth 20000 in
theorem okj_X4_read_191 {r : (Int32 × Hp)}  (s0 : Int32) (h : Hp) (H : j_X4_read_191 s0 h = some r) : Go M_X4_read (some (aI r.1), r.2) 191 [none, none, none, none, none, none] [aI s0] h := by
  unfold j_X4_read_191 at H
  obtain rfl := Option.some.inj H
  exact go_ireturn dX4_read_191 (tyI_int rfl)
def j_X4_read_178 (v1 : Nat)  (h : Hp) : Option (Int32 × Hp) :=
  (gfI h v1 10 2).bind fun x1 => j_X4_read_191 (if ¬ x1 = (3 : Int32) then (1 : Int32) else (2 : Int32)) h
set_option maxRecDepth 20000 in
theorem okj_X4_read_178 {r : (Int32 × Hp)} (v1 : Nat)  (h : Hp) (H : j_X4_read_178 v1 h = some r) : Go M_X4_read (some (aI r.1), r.2) 178 [none, some (aA v1), none, none, none, none] [] h := by
  unfold j_X4_read_178 at H
  refine go_aloadn dX4_read_178 rfl ?_
  refine gm_getI fd_X4_50 dX4_read_179 H (fun x1 H => ?_)
  refine go_iconst (v := (3 : Int32)) dX4_read_182 rfl ?_
  refine go_icmp_ne (tgt := 190) dX4_read_183 (by decide) (fun c1 => ?_) (fun c1 => ?_)
  · rw [if_pos c1] at H
    refine go_iconst (v := (1 : Int32)) dX4_read_190 rfl ?_
    refine go_mask [false, false, false, false, false, false] (loc' := [none, none, none, none, none, none]) rfl ?_
    exact okj_X4_read_191 (1 : Int32) h  H
  · rw [if_neg c1] at H
    refine go_iconst (v := (2 : Int32)) dX4_read_186 rfl ?_
    refine go_goto (tgt := 191) dX4_read_187 (by decide) ?_
    refine go_mask [false, false, false, false, false, false] (loc' := [none, none, none, none, none, none]) rfl ?_
    exact okj_X4_read_191 (2 : Int32) h  H
def j_X4_read_147 (v0 : Nat) (v1 : Nat) (s0 : Int32) (h : Hp) : Option (Int32 × Hp) :=
  l_X4_read_152 v0 v1 (fun hz1 => j_X4_read_178 v1 hz1) s0 (0 : Int32) h
set_option maxRecDepth 20000 in
theorem okj_X4_read_147 {r : (Int32 × Hp)} (v0 : Nat) (v1 : Nat) (s0 : Int32) (h : Hp) (H : j_X4_read_147 v0 v1 s0 h = some r) : Go M_X4_read (some (aI r.1), r.2) 147 [some (aA v0), some (aA v1), none, none, none, none] [aI s0] h := by
  unfold j_X4_read_147 at H
  refine go_istore (loc2 := [some (aA v0), some (aA v1), none, none, some (aI s0), none]) dX4_read_147 (by decide) rfl ?_
  refine go_iconst (v := (0 : Int32)) dX4_read_149 rfl ?_
  refine go_istore (loc2 := [some (aA v0), some (aA v1), none, none, some (aI s0), some (aI (0 : Int32))]) dX4_read_150 (by decide) rfl ?_
  refine okl_X4_read_152 v0 v1 (fun hz1 => j_X4_read_178 v1 hz1) s0 (0 : Int32) h ?_ H
  · intro hz1 H
    exact okj_X4_read_178 v1 hz1  H
def j_X4_read_117 (v0 : Nat) (v1 : Nat)  (h : Hp) : Option (Int32 × Hp) :=
  (gfI h v0 5 0).bind fun x1 => if x1 = (8 : Int32) then j_X4_read_147 v0 v1 (1 : Int32) h else (gfI h v0 5 0).bind fun x2 => if x2 = (9 : Int32) then j_X4_read_147 v0 v1 (1 : Int32) h else (gfI h v0 5 0).bind fun x3 => j_X4_read_147 v0 v1 (if ¬ x3 = 0 then (0 : Int32) else (1 : Int32)) h
set_option maxRecDepth 20000 in
theorem okj_X4_read_117 {r : (Int32 × Hp)} (v0 : Nat) (v1 : Nat)  (h : Hp) (H : j_X4_read_117 v0 v1 h = some r) : Go M_X4_read (some (aI r.1), r.2) 117 [some (aA v0), some (aA v1), none, none, none, none] [] h := by
  unfold j_X4_read_117 at H
  refine go_aloadn dX4_read_117 rfl ?_
  refine gm_getI fd_X4_11 dX4_read_118 H (fun x1 H => ?_)
  refine go_bipush (v := (8 : Int32)) dX4_read_121 rfl ?_
  refine go_icmp_eq (tgt := 142) dX4_read_123 (by decide) (fun c1 => ?_) (fun c1 => ?_)
  · replace H := (gm_ite H).1 c1
    refine go_iconst (v := (1 : Int32)) dX4_read_142 rfl ?_
    refine go_goto (tgt := 147) dX4_read_143 (by decide) ?_
    exact okj_X4_read_147 v0 v1 (1 : Int32) h  H
  · replace H := (gm_ite H).2 c1
    refine go_aloadn dX4_read_126 rfl ?_
    refine gm_getI fd_X4_11 dX4_read_127 H (fun x2 H => ?_)
    refine go_bipush (v := (9 : Int32)) dX4_read_130 rfl ?_
    refine go_icmp_eq (tgt := 142) dX4_read_132 (by decide) (fun c2 => ?_) (fun c2 => ?_)
    · replace H := (gm_ite H).1 c2
      refine go_iconst (v := (1 : Int32)) dX4_read_142 rfl ?_
      refine go_goto (tgt := 147) dX4_read_143 (by decide) ?_
      exact okj_X4_read_147 v0 v1 (1 : Int32) h  H
    · replace H := (gm_ite H).2 c2
      refine go_aloadn dX4_read_135 rfl ?_
      refine gm_getI fd_X4_11 dX4_read_136 H (fun x3 H => ?_)
      refine go_if_ne (tgt := 146) dX4_read_139 (by decide) (fun c3 => ?_) (fun c3 => ?_)
      · rw [if_pos c3] at H
        refine go_iconst (v := (0 : Int32)) dX4_read_146 rfl ?_
        exact okj_X4_read_147 v0 v1 (0 : Int32) h  H
      · rw [if_neg c3] at H
        refine go_iconst (v := (1 : Int32)) dX4_read_142 rfl ?_
        refine go_goto (tgt := 147) dX4_read_143 (by decide) ?_
        exact okj_X4_read_147 v0 v1 (1 : Int32) h  H
def m_X4_read (v0 : Nat) (v1 : Nat) (v2 : Int32) (h : Hp) : Option (Int32 × Hp) :=
  (pfI h v0 5 2 (0 : Int32)).bind fun hh1 => (pfI hh1 v0 5 3 (0 : Int32)).bind fun hh2 => (pfI hh2 v0 5 4 (-1 : Int32)).bind fun hh3 => (rc hh3 v1 10 (m_X10_next v1 hh3)).bind fun x1 => (gfI x1 v1 10 3).bind fun x2 => (pfI x1 v0 5 1 x2).bind fun hh4 => (gfI hh4 v1 10 2).bind fun x3 => if ¬ x3 = 0 then ((m_X4_kindOf v1 v2 hh4).bind fun x4 => (pfI hh4 v0 5 0 x4).bind fun hh5 => (gfI hh5 v0 5 0).bind fun x5 => if ¬ x5 = (-1 : Int32) then ((rc hh5 v1 10 (m_X10_next v1 hh5)).bind fun x6 => (gfI x6 v0 5 0).bind fun x7 => (m_X4_shapeOf x7 x6).bind fun x8 => l_X4_read_70 v0 v1 x8 (fun hz9 => j_X4_read_98 hz9) (fun hz10 => j_X4_read_117 v0 v1 hz10) (0 : Int32) x6) else some ((1 : Int32), hh5)) else some ((0 : Int32), hh4)
set_option maxRecDepth 20000 in
theorem ok_X4_read {r : (Int32 × Hp)} {v0 : Nat} {v1 : Nat} {v2 : Int32} {h : Hp} (H : m_X4_read v0 v1 v2 h = some r) : Ev M_X4_read [aA v0, aA v1, aI v2] h (some (aI r.1), r.2) := by
  show Go M_X4_read (some (aI r.1), r.2) 0 [some (aA v0), some (aA v1), some (aI v2), none, none, none] [] h
  unfold m_X4_read at H
  refine go_aloadn dX4_read_0 rfl ?_
  refine go_iconst (v := (0 : Int32)) dX4_read_1 rfl ?_
  refine gm_putI fd_X4_20 (Or.inl rfl) dX4_read_2 H (fun hh1 H => ?_)
  refine go_aloadn dX4_read_5 rfl ?_
  refine go_iconst (v := (0 : Int32)) dX4_read_6 rfl ?_
  refine gm_putI fd_X4_23 (Or.inl rfl) dX4_read_7 H (fun hh2 H => ?_)
  refine go_aloadn dX4_read_10 rfl ?_
  refine go_iconst (v := (-1 : Int32)) dX4_read_11 rfl ?_
  refine gm_putI fd_X4_26 (Or.inl rfl) dX4_read_12 H (fun hh3 H => ?_)
  refine go_aloadn dX4_read_15 rfl ?_
  obtain ⟨c1, x1, ex1, H⟩ := gm_rc H
  refine go_callV (vs := []) (stk := []) (o1 := (none, x1)) mk_X10_next sv_X4_read_42 cl_X10 rfl dX4_read_16 c1 rfl rfl (Nat.le_of_ble_eq_true rfl) (Nat.le_of_ble_eq_true rfl) (ok_X10_next ex1) (show Go M_X4_read (some (aI r.1), r.2) 19 [some (aA v0), some (aA v1), some (aI v2), none, none, none] [] x1 from ?_)
  refine go_aloadn dX4_read_19 rfl ?_
  refine go_aloadn dX4_read_20 rfl ?_
  refine gm_getI fd_X4_47 dX4_read_21 H (fun x2 H => ?_)
  refine gm_putI fd_X4_17 (Or.inl rfl) dX4_read_24 H (fun hh4 H => ?_)
  refine go_aloadn dX4_read_27 rfl ?_
  refine gm_getI fd_X4_50 dX4_read_28 H (fun x3 H => ?_)
  refine go_if_ne (tgt := 36) dX4_read_31 (by decide) (fun c2 => ?_) (fun c2 => ?_)
  · replace H := (gm_ite H).1 c2
    refine go_aloadn dX4_read_36 rfl ?_
    refine go_aloadn dX4_read_37 rfl ?_
    refine go_iloadn dX4_read_38 rfl ?_
    obtain ⟨x4, ex4, H⟩ := bind_some H
    refine go_callS (vs := [aA v1, aI v2]) (stk := [aA v0]) (o1 := (some (aI x4), hh4)) mk_X4_kindOf ss_X4_read_53 dX4_read_39 rfl rfl (Nat.le_of_ble_eq_true rfl) (Nat.le_of_ble_eq_true rfl) (ok_X4_kindOf ex4) (show Go M_X4_read (some (aI r.1), r.2) 42 [some (aA v0), some (aA v1), some (aI v2), none, none, none] [aI x4, aA v0] hh4 from ?_)
    refine gm_putI fd_X4_11 (Or.inl rfl) dX4_read_42 H (fun hh5 H => ?_)
    refine go_aloadn dX4_read_45 rfl ?_
    refine gm_getI fd_X4_11 dX4_read_46 H (fun x5 H => ?_)
    refine go_iconst (v := (-1 : Int32)) dX4_read_49 rfl ?_
    refine go_icmp_ne (tgt := 55) dX4_read_50 (by decide) (fun c4 => ?_) (fun c4 => ?_)
    · replace H := (gm_ite H).1 c4
      refine go_aloadn dX4_read_55 rfl ?_
      obtain ⟨c5, x6, ex6, H⟩ := gm_rc H
      refine go_callV (vs := []) (stk := []) (o1 := (none, x6)) mk_X10_next sv_X4_read_42 cl_X10 rfl dX4_read_56 c5 rfl rfl (Nat.le_of_ble_eq_true rfl) (Nat.le_of_ble_eq_true rfl) (ok_X10_next ex6) (show Go M_X4_read (some (aI r.1), r.2) 59 [some (aA v0), some (aA v1), some (aI v2), none, none, none] [] x6 from ?_)
      refine go_aloadn dX4_read_59 rfl ?_
      refine gm_getI fd_X4_11 dX4_read_60 H (fun x7 H => ?_)
      obtain ⟨x8, ex8, H⟩ := bind_some H
      refine go_callS (vs := [aI x7]) (stk := []) (o1 := (some (aA x8), x6)) mk_X4_shapeOf ss_X4_read_57 dX4_read_63 rfl rfl (Nat.le_of_ble_eq_true rfl) (Nat.le_of_ble_eq_true rfl) (ok_X4_shapeOf ex8) (show Go M_X4_read (some (aI r.1), r.2) 66 [some (aA v0), some (aA v1), some (aI v2), none, none, none] [aA x8] x6 from ?_)
      refine go_astoren (loc2 := [some (aA v0), some (aA v1), some (aI v2), some (aA x8), none, none]) dX4_read_66 rfl (by decide) rfl ?_
      refine go_iconst (v := (0 : Int32)) dX4_read_67 rfl ?_
      refine go_istore (loc2 := [some (aA v0), some (aA v1), some (aI v2), some (aA x8), some (aI (0 : Int32)), none]) dX4_read_68 (by decide) rfl ?_
      refine go_mask [true, true, false, true, true, false] (loc' := [some (aA v0), some (aA v1), none, some (aA x8), some (aI (0 : Int32)), none]) rfl ?_
      refine okl_X4_read_70 v0 v1 x8 (fun hz9 => j_X4_read_98 hz9) (fun hz10 => j_X4_read_117 v0 v1 hz10) (0 : Int32) x6 ?_ ?_ H
      · intro hz9 H
        exact okj_X4_read_98 hz9  H
      · intro hz10 H
        exact okj_X4_read_117 v0 v1 hz10  H
    · replace H := (gm_ite H).2 c4
      refine go_iconst (v := (1 : Int32)) dX4_read_53 rfl ?_
      obtain rfl := Option.some.inj H
      exact go_ireturn dX4_read_54 (tyI_int rfl)
  · replace H := (gm_ite H).2 c2
    refine go_iconst (v := (0 : Int32)) dX4_read_34 rfl ?_
    obtain rfl := Option.some.inj H
    exact go_ireturn dX4_read_35 (tyI_int rfl)
/-! X7_note -/
def j_X7_note_31 (v0 : Nat) (v1 : Int32) (v2 : Int32)  (h : Hp) : Option Hp :=
  (pfI h v0 7 4 v1).bind fun hh1 => (pfI hh1 v0 7 5 v2).bind fun hh2 => some hh2
set_option maxRecDepth 20000 in
theorem okj_X7_note_31 {r : Hp} (v0 : Nat) (v1 : Int32) (v2 : Int32)  (h : Hp) (H : j_X7_note_31 v0 v1 v2 h = some r) : Go M_X7_note (none, r) 31 [some (aA v0), some (aI v1), some (aI v2)] [] h := by
  unfold j_X7_note_31 at H
  refine go_aloadn dX7_note_31 rfl ?_
  refine go_iloadn dX7_note_32 rfl ?_
  refine gm_putI fd_X7_39 (Or.inl rfl) dX7_note_33 H (fun hh1 H => ?_)
  refine go_aloadn dX7_note_36 rfl ?_
  refine go_iloadn dX7_note_37 rfl ?_
  refine gm_putI fd_X7_43 (Or.inl rfl) dX7_note_38 H (fun hh2 H => ?_)
  obtain rfl := Option.some.inj H
  exact go_return dX7_note_41 rfl
def m_X7_note (v0 : Nat) (v1 : Int32) (v2 : Int32) (h : Hp) : Option Hp :=
  (gfI h v0 7 4).bind fun x1 => if x1 = 0 then j_X7_note_31 v0 v1 v2 h else (gfI h v0 7 5).bind fun x2 => if v2 < x2 then j_X7_note_31 v0 v1 v2 h else (gfI h v0 7 5).bind fun x3 => if ¬ v2 = x3 then (some h) else (gfI h v0 7 4).bind fun x4 => if x4 ≤ v1 then (some h) else j_X7_note_31 v0 v1 v2 h
set_option maxRecDepth 20000 in
theorem ok_X7_note {r : Hp} {v0 : Nat} {v1 : Int32} {v2 : Int32} {h : Hp} (H : m_X7_note v0 v1 v2 h = some r) : Ev M_X7_note [aA v0, aI v1, aI v2] h (none, r) := by
  show Go M_X7_note (none, r) 0 [some (aA v0), some (aI v1), some (aI v2)] [] h
  unfold m_X7_note at H
  refine go_aloadn dX7_note_0 rfl ?_
  refine gm_getI fd_X7_39 dX7_note_1 H (fun x1 H => ?_)
  refine go_if_eq (tgt := 31) dX7_note_4 (by decide) (fun c1 => ?_) (fun c1 => ?_)
  · replace H := (gm_ite H).1 c1
    exact okj_X7_note_31 v0 v1 v2 h  H
  · replace H := (gm_ite H).2 c1
    refine go_iloadn dX7_note_7 rfl ?_
    refine go_aloadn dX7_note_8 rfl ?_
    refine gm_getI fd_X7_43 dX7_note_9 H (fun x2 H => ?_)
    refine go_icmp_lt (tgt := 31) dX7_note_12 (by decide) (fun c2 => ?_) (fun c2 => ?_)
    · replace H := (gm_ite H).1 c2
      exact okj_X7_note_31 v0 v1 v2 h  H
    · replace H := (gm_ite H).2 c2
      refine go_iloadn dX7_note_15 rfl ?_
      refine go_aloadn dX7_note_16 rfl ?_
      refine gm_getI fd_X7_43 dX7_note_17 H (fun x3 H => ?_)
      refine go_icmp_ne (tgt := 41) dX7_note_20 (by decide) (fun c3 => ?_) (fun c3 => ?_)
      · replace H := (gm_ite H).1 c3
        obtain rfl := Option.some.inj H
        exact go_return dX7_note_41 rfl
      · replace H := (gm_ite H).2 c3
        refine go_iloadn dX7_note_23 rfl ?_
        refine go_aloadn dX7_note_24 rfl ?_
        refine gm_getI fd_X7_39 dX7_note_25 H (fun x4 H => ?_)
        refine go_icmp_ge (tgt := 41) dX7_note_28 (by decide) (fun c4 => ?_) (fun c4 => ?_)
        · replace H := (gm_ite H).1 c4
          obtain rfl := Option.some.inj H
          exact go_return dX7_note_41 rfl
        · replace H := (gm_ite H).2 c4
          exact okj_X7_note_31 v0 v1 v2 h  H
/-! X7_noteNoText -/
def b_X7_noteNoText_9 (v0 : Nat) (v1 : Nat) (v2 : Int32) (K38 : Int32 → Hp → Option Hp) (k : Int32 → Int32 → Hp → Option Hp) (v3 : Int32) (v4 : Int32) (h : Hp) : Option Hp :=
  if (600 : Int32) < v4 then K38 v3 h else if ¬ v3 = (2 : Int32) then K38 v3 h else (gfR h v0 7 0).bind fun x1 => (rc h x1 5 (m_X4_read x1 v1 v2 h)).bind fun x2 => k x2.1 (v4 + (1 : Int32)) x2.2
set_option maxRecDepth 20000 in
theorem okb_X7_noteNoText_9 {r : Hp} (v0 : Nat) (v1 : Nat) (v2 : Int32) (K38 : Int32 → Hp → Option Hp) (k : Int32 → Int32 → Hp → Option Hp) (v3 : Int32) (v4 : Int32) (h : Hp) (HK38 : ∀ (v3q : Int32)  (hq : Hp), K38 v3q hq = some r → Go M_X7_noteNoText (none, r) 38 [some (aA v0), some (aA v1), none, some (aI v3q), none] [] hq) (Hk : ∀ (v3q : Int32) (v4q : Int32) (hq : Hp), k v3q v4q hq = some r → Go M_X7_noteNoText (none, r) 9 [some (aA v0), some (aA v1), some (aI v2), some (aI v3q), some (aI v4q)] [] hq) (H : b_X7_noteNoText_9 v0 v1 v2 K38 k v3 v4 h = some r) : Go M_X7_noteNoText (none, r) 9 [some (aA v0), some (aA v1), some (aI v2), some (aI v3), some (aI v4)] [] h := by
  unfold b_X7_noteNoText_9 at H
  refine go_iload dX7_noteNoText_9 rfl ?_
  refine go_sipush (v := (600 : Int32)) dX7_noteNoText_11 rfl ?_
  refine go_icmp_gt (tgt := 38) dX7_noteNoText_14 (by decide) (fun c1 => ?_) (fun c1 => ?_)
  · replace H := (gm_ite H).1 c1
    refine go_mask [true, true, false, true, false] (loc' := [some (aA v0), some (aA v1), none, some (aI v3), none]) rfl ?_
    exact HK38 v3 h H
  · replace H := (gm_ite H).2 c1
    refine go_iloadn dX7_noteNoText_17 rfl ?_
    refine go_iconst (v := (2 : Int32)) dX7_noteNoText_18 rfl ?_
    refine go_icmp_ne (tgt := 38) dX7_noteNoText_19 (by decide) (fun c2 => ?_) (fun c2 => ?_)
    · replace H := (gm_ite H).1 c2
      refine go_mask [true, true, false, true, false] (loc' := [some (aA v0), some (aA v1), none, some (aI v3), none]) rfl ?_
      exact HK38 v3 h H
    · replace H := (gm_ite H).2 c2
      refine go_aloadn dX7_noteNoText_22 rfl ?_
      refine gm_getR fd_X7_12 dX7_noteNoText_23 H (fun x1 H => ?_)
      refine go_aloadn dX7_noteNoText_26 rfl ?_
      refine go_iloadn dX7_noteNoText_27 rfl ?_
      obtain ⟨c3, x2, ex2, H⟩ := gm_rc H
      refine go_callV (vs := [aA v1, aI v2]) (stk := []) (o1 := (some (aI x2.1), x2.2)) mk_X4_read sv_X7_noteNoText_62 cl_X4 rfl dX7_noteNoText_28 c3 rfl rfl (Nat.le_of_ble_eq_true rfl) (Nat.le_of_ble_eq_true rfl) (ok_X4_read ex2) (show Go M_X7_noteNoText (none, r) 31 [some (aA v0), some (aA v1), some (aI v2), some (aI v3), some (aI v4)] [aI x2.1] x2.2 from ?_)
      refine go_istoren (loc2 := [some (aA v0), some (aA v1), some (aI v2), some (aI x2.1), some (aI v4)]) dX7_noteNoText_31 rfl (by decide) rfl ?_
      refine go_iinc (v := (v4 + (1 : Int32))) (loc2 := [some (aA v0), some (aA v1), some (aI v2), some (aI x2.1), some (aI (v4 + (1 : Int32)))]) dX7_noteNoText_32 rfl rfl (by decide) rfl ?_
      refine go_goto (tgt := 9) dX7_noteNoText_35 (by decide) ?_
      exact Hk x2.1 (v4 + (1 : Int32)) x2.2 H
def l_X7_noteNoText_9 (v0 : Nat) (v1 : Nat) (v2 : Int32) (K38 : Int32 → Hp → Option Hp) (v3 : Int32) (v4 : Int32) (h : Hp) : Option Hp := loopK FUEL (fun (k : Int32 × Int32 × Hp → Option Hp) (s : Int32 × Int32 × Hp) => b_X7_noteNoText_9 v0 v1 v2 K38 (fun v3q v4q hq => k (v3q, v4q, hq)) s.1 s.2.1 s.2.2) (v3, v4, h)
theorem okl_X7_noteNoText_9 {r : Hp} (v0 : Nat) (v1 : Nat) (v2 : Int32) (K38 : Int32 → Hp → Option Hp) (v3 : Int32) (v4 : Int32) (h : Hp) (HK38 : ∀ (v3q : Int32)  (hq : Hp), K38 v3q hq = some r → Go M_X7_noteNoText (none, r) 38 [some (aA v0), some (aA v1), none, some (aI v3q), none] [] hq) (H : l_X7_noteNoText_9 v0 v1 v2 K38 v3 v4 h = some r) : Go M_X7_noteNoText (none, r) 9 [some (aA v0), some (aA v1), some (aI v2), some (aI v3), some (aI v4)] [] h := by
  unfold l_X7_noteNoText_9 at H
  exact go_loop (σ := Int32 × Int32 × Hp) (body := (fun (k : Int32 × Int32 × Hp → Option Hp) (s : Int32 × Int32 × Hp) => b_X7_noteNoText_9 v0 v1 v2 K38 (fun v3q v4q hq => k (v3q, v4q, hq)) s.1 s.2.1 s.2.2)) (fun s => [some (aA v0), some (aA v1), some (aI v2), some (aI s.1), some (aI s.2.1)]) (fun s => s.2.2) (fun k s Hk H => okb_X7_noteNoText_9 v0 v1 v2 K38 (fun v3q v4q hq => k (v3q, v4q, hq)) s.1 s.2.1 s.2.2 HK38 (fun v3q v4q hq H => Hk (v3q, v4q, hq) H) H) FUEL (v3, v4, h) H
def j_X7_noteNoText_38 (v0 : Nat) (v1 : Nat) (v3 : Int32)  (h : Hp) : Option Hp :=
  if ¬ v3 = (1 : Int32) then (some h) else (gfI h v1 10 3).bind fun x1 => (rc h v0 7 (m_X7_note v0 (1 : Int32) x1 h)).bind fun x2 => some x2
set_option maxRecDepth 20000 in
theorem okj_X7_noteNoText_38 {r : Hp} (v0 : Nat) (v1 : Nat) (v3 : Int32)  (h : Hp) (H : j_X7_noteNoText_38 v0 v1 v3 h = some r) : Go M_X7_noteNoText (none, r) 38 [some (aA v0), some (aA v1), none, some (aI v3), none] [] h := by
  unfold j_X7_noteNoText_38 at H
  refine go_iloadn dX7_noteNoText_38 rfl ?_
  refine go_iconst (v := (1 : Int32)) dX7_noteNoText_39 rfl ?_
  refine go_icmp_ne (tgt := 52) dX7_noteNoText_40 (by decide) (fun c1 => ?_) (fun c1 => ?_)
  · replace H := (gm_ite H).1 c1
    obtain rfl := Option.some.inj H
    exact go_return dX7_noteNoText_52 rfl
  · replace H := (gm_ite H).2 c1
    refine go_aloadn dX7_noteNoText_43 rfl ?_
    refine go_iconst (v := (1 : Int32)) dX7_noteNoText_44 rfl ?_
    refine go_aloadn dX7_noteNoText_45 rfl ?_
    refine gm_getI fd_X7_84 dX7_noteNoText_46 H (fun x1 H => ?_)
    obtain ⟨c2, x2, ex2, H⟩ := gm_rc H
    refine go_callV (vs := [aI (1 : Int32), aI x1]) (stk := []) (o1 := (none, x2)) mk_X7_note sv_X7_noteNoText_87 cl_X7 rfl dX7_noteNoText_49 c2 rfl rfl (Nat.le_of_ble_eq_true rfl) (Nat.le_of_ble_eq_true rfl) (ok_X7_note ex2) (show Go M_X7_noteNoText (none, r) 52 [some (aA v0), some (aA v1), none, some (aI v3), none] [] x2 from ?_)
    obtain rfl := Option.some.inj H
    exact go_return dX7_noteNoText_52 rfl
def m_X7_noteNoText (v0 : Nat) (v1 : Nat) (v2 : Int32) (h : Hp) : Option Hp :=
  (rc h v1 10 (m_X10_rewind v1 h)).bind fun x1 => l_X7_noteNoText_9 v0 v1 v2 (fun a2_3 hz2 => j_X7_noteNoText_38 v0 v1 a2_3 hz2) (2 : Int32) (0 : Int32) x1
set_option maxRecDepth 20000 in
theorem ok_X7_noteNoText {r : Hp} {v0 : Nat} {v1 : Nat} {v2 : Int32} {h : Hp} (H : m_X7_noteNoText v0 v1 v2 h = some r) : Ev M_X7_noteNoText [aA v0, aA v1, aI v2] h (none, r) := by
  show Go M_X7_noteNoText (none, r) 0 [some (aA v0), some (aA v1), some (aI v2), none, none] [] h
  unfold m_X7_noteNoText at H
  refine go_aloadn dX7_noteNoText_0 rfl ?_
  obtain ⟨c1, x1, ex1, H⟩ := gm_rc H
  refine go_callV (vs := []) (stk := []) (o1 := (none, x1)) mk_X10_rewind sv_X7_noteNoText_57 cl_X10 rfl dX7_noteNoText_1 c1 rfl rfl (Nat.le_of_ble_eq_true rfl) (Nat.le_of_ble_eq_true rfl) (ok_X10_rewind ex1) (show Go M_X7_noteNoText (none, r) 4 [some (aA v0), some (aA v1), some (aI v2), none, none] [] x1 from ?_)
  refine go_iconst (v := (2 : Int32)) dX7_noteNoText_4 rfl ?_
  refine go_istoren (loc2 := [some (aA v0), some (aA v1), some (aI v2), some (aI (2 : Int32)), none]) dX7_noteNoText_5 rfl (by decide) rfl ?_
  refine go_iconst (v := (0 : Int32)) dX7_noteNoText_6 rfl ?_
  refine go_istore (loc2 := [some (aA v0), some (aA v1), some (aI v2), some (aI (2 : Int32)), some (aI (0 : Int32))]) dX7_noteNoText_7 (by decide) rfl ?_
  refine okl_X7_noteNoText_9 v0 v1 v2 (fun a2_3 hz2 => j_X7_noteNoText_38 v0 v1 a2_3 hz2) (2 : Int32) (0 : Int32) x1 ?_ H
  · intro a2_3 hz2 H
    exact okj_X7_noteNoText_38 v0 v1 a2_3 hz2  H
/-! X4_value -/
def m_X4_value (v0 : Nat) (v1 : Int32) (h : Hp) : Option Int32 :=
  (gfR h v0 5 5).bind fun x1 => (m_X5_at x1 v1 h).bind fun x2 => some x2
set_option maxRecDepth 20000 in
theorem ok_X4_value {r : Int32} {v0 : Nat} {v1 : Int32} {h : Hp} (H : m_X4_value v0 v1 h = some r) : Ev M_X4_value [aA v0, aI v1] h (some (aI r), h) := by
  show Go M_X4_value (some (aI r), h) 0 [some (aA v0), some (aI v1)] [] h
  unfold m_X4_value at H
  refine go_aloadn dX4_value_0 rfl ?_
  refine gm_getR fd_X4_29 dX4_value_1 H (fun x1 H => ?_)
  refine go_iloadn dX4_value_4 rfl ?_
  obtain ⟨x2, ex2, H⟩ := bind_some H
  refine go_callS (vs := [aA x1, aI v1]) (stk := []) (o1 := (some (aI x2), h)) mk_X5_at ss_X4_value_94 dX4_value_5 rfl rfl (Nat.le_of_ble_eq_true rfl) (Nat.le_of_ble_eq_true rfl) (ok_X5_at ex2) (show Go M_X4_value (some (aI r), h) 8 [some (aA v0), some (aI v1)] [aI x2] h from ?_)
  obtain rfl := Option.some.inj H
  exact go_ireturn dX4_value_8 (tyI_int rfl)
/-! X7_least -/
def j_X7_least_54  (s0 : Int32) (h : Hp) : Option Int32 :=
  some s0
set_option maxRecDepth 20000 in
theorem okj_X7_least_54 {r : Int32}  (s0 : Int32) (h : Hp) (H : j_X7_least_54 s0 h = some r) : Go M_X7_least (some (aI r), h) 54 [none, none, none] [aI s0] h := by
  unfold j_X7_least_54 at H
  obtain rfl := Option.some.inj H
  exact go_ireturn dX7_least_54 (tyI_int rfl)
def j_X7_least_44  (s0 : Int32) (h : Hp) : Option Int32 :=
  j_X7_least_54 (if s0 = 0 then (0 : Int32) else (1 : Int32)) h
set_option maxRecDepth 20000 in
theorem okj_X7_least_44 {r : Int32}  (s0 : Int32) (h : Hp) (H : j_X7_least_44 s0 h = some r) : Go M_X7_least (some (aI r), h) 44 [none, none, none] [aI s0] h := by
  unfold j_X7_least_44 at H
  refine go_istoren (loc2 := [none, none, some (aI s0)]) dX7_least_44 rfl (by decide) rfl ?_
  refine go_iloadn dX7_least_45 rfl ?_
  refine go_if_eq (tgt := 53) dX7_least_46 (by decide) (fun c1 => ?_) (fun c1 => ?_)
  · rw [if_pos c1] at H
    refine go_iconst (v := (0 : Int32)) dX7_least_53 rfl ?_
    refine go_mask [false, false, false] (loc' := [none, none, none]) rfl ?_
    exact okj_X7_least_54 (0 : Int32) h  H
  · rw [if_neg c1] at H
    refine go_iconst (v := (1 : Int32)) dX7_least_49 rfl ?_
    refine go_goto (tgt := 54) dX7_least_50 (by decide) ?_
    refine go_mask [false, false, false] (loc' := [none, none, none]) rfl ?_
    exact okj_X7_least_54 (1 : Int32) h  H
def m_X7_least (v0 : Nat) (v1 : Int32) (h : Hp) : Option Int32 :=
  (gfR h v0 7 0).bind fun x1 => (gfI h x1 5 0).bind fun x2 => if x2 = (1 : Int32) then j_X7_least_44 (1 : Int32) h else (gfR h v0 7 0).bind fun x3 => (gfI h x3 5 0).bind fun x4 => if x4 = (2 : Int32) then j_X7_least_44 (1 : Int32) h else (gfR h v0 7 0).bind fun x5 => (gfI h x5 5 0).bind fun x6 => j_X7_least_44 (if ¬ x6 = (10 : Int32) then (0 : Int32) else (if ¬ v1 = (2 : Int32) then (0 : Int32) else (1 : Int32))) h
set_option maxRecDepth 20000 in
theorem ok_X7_least {r : Int32} {v0 : Nat} {v1 : Int32} {h : Hp} (H : m_X7_least v0 v1 h = some r) : Ev M_X7_least [aA v0, aI v1] h (some (aI r), h) := by
  show Go M_X7_least (some (aI r), h) 0 [some (aA v0), some (aI v1), none] [] h
  unfold m_X7_least at H
  refine go_aloadn dX7_least_0 rfl ?_
  refine gm_getR fd_X7_12 dX7_least_1 H (fun x1 H => ?_)
  refine gm_getI fd_X7_117 dX7_least_4 H (fun x2 H => ?_)
  refine go_iconst (v := (1 : Int32)) dX7_least_7 rfl ?_
  refine go_icmp_eq (tgt := 39) dX7_least_8 (by decide) (fun c1 => ?_) (fun c1 => ?_)
  · replace H := (gm_ite H).1 c1
    refine go_iconst (v := (1 : Int32)) dX7_least_39 rfl ?_
    refine go_goto (tgt := 44) dX7_least_40 (by decide) ?_
    refine go_mask [false, false, false] (loc' := [none, none, none]) rfl ?_
    exact okj_X7_least_44 (1 : Int32) h  H
  · replace H := (gm_ite H).2 c1
    refine go_aloadn dX7_least_11 rfl ?_
    refine gm_getR fd_X7_12 dX7_least_12 H (fun x3 H => ?_)
    refine gm_getI fd_X7_117 dX7_least_15 H (fun x4 H => ?_)
    refine go_iconst (v := (2 : Int32)) dX7_least_18 rfl ?_
    refine go_icmp_eq (tgt := 39) dX7_least_19 (by decide) (fun c2 => ?_) (fun c2 => ?_)
    · replace H := (gm_ite H).1 c2
      refine go_iconst (v := (1 : Int32)) dX7_least_39 rfl ?_
      refine go_goto (tgt := 44) dX7_least_40 (by decide) ?_
      refine go_mask [false, false, false] (loc' := [none, none, none]) rfl ?_
      exact okj_X7_least_44 (1 : Int32) h  H
    · replace H := (gm_ite H).2 c2
      refine go_aloadn dX7_least_22 rfl ?_
      refine gm_getR fd_X7_12 dX7_least_23 H (fun x5 H => ?_)
      refine gm_getI fd_X7_117 dX7_least_26 H (fun x6 H => ?_)
      refine go_bipush (v := (10 : Int32)) dX7_least_29 rfl ?_
      refine go_icmp_ne (tgt := 43) dX7_least_31 (by decide) (fun c3 => ?_) (fun c3 => ?_)
      · rw [if_pos c3] at H
        refine go_iconst (v := (0 : Int32)) dX7_least_43 rfl ?_
        refine go_mask [false, false, false] (loc' := [none, none, none]) rfl ?_
        exact okj_X7_least_44 (0 : Int32) h  H
      · rw [if_neg c3] at H
        refine go_iloadn dX7_least_34 rfl ?_
        refine go_iconst (v := (2 : Int32)) dX7_least_35 rfl ?_
        refine go_icmp_ne (tgt := 43) dX7_least_36 (by decide) (fun c4 => ?_) (fun c4 => ?_)
        · rw [if_pos c4] at H
          refine go_iconst (v := (0 : Int32)) dX7_least_43 rfl ?_
          refine go_mask [false, false, false] (loc' := [none, none, none]) rfl ?_
          exact okj_X7_least_44 (0 : Int32) h  H
        · rw [if_neg c4] at H
          refine go_iconst (v := (1 : Int32)) dX7_least_39 rfl ?_
          refine go_goto (tgt := 44) dX7_least_40 (by decide) ?_
          refine go_mask [false, false, false] (loc' := [none, none, none]) rfl ?_
          exact okj_X7_least_44 (1 : Int32) h  H
/-! J9_min_7cf53 -/
def j_J9_min_7cf53_10  (s0 : Int32) (h : Hp) : Option Int32 :=
  some s0
set_option maxRecDepth 20000 in
theorem okj_J9_min_7cf53_10 {r : Int32}  (s0 : Int32) (h : Hp) (H : j_J9_min_7cf53_10 s0 h = some r) : Go M_J9_min_7cf53 (some (aI r), h) 10 [none, none] [aI s0] h := by
  unfold j_J9_min_7cf53_10 at H
  obtain rfl := Option.some.inj H
  exact go_ireturn dJ9_min_7cf53_10 (tyI_int rfl)
def m_J9_min_7cf53 (v0 : Int32) (v1 : Int32) (h : Hp) : Option Int32 :=
  j_J9_min_7cf53_10 (if v1 < v0 then v1 else v0) h
set_option maxRecDepth 20000 in
theorem ok_J9_min_7cf53 {r : Int32} {v0 : Int32} {v1 : Int32} {h : Hp} (H : m_J9_min_7cf53 v0 v1 h = some r) : Ev M_J9_min_7cf53 [aI v0, aI v1] h (some (aI r), h) := by
  show Go M_J9_min_7cf53 (some (aI r), h) 0 [some (aI v0), some (aI v1)] [] h
  unfold m_J9_min_7cf53 at H
  refine go_iloadn dJ9_min_7cf53_0 rfl ?_
  refine go_iloadn dJ9_min_7cf53_1 rfl ?_
  refine go_icmp_gt (tgt := 9) dJ9_min_7cf53_2 (by decide) (fun c1 => ?_) (fun c1 => ?_)
  · rw [if_pos c1] at H
    refine go_iloadn dJ9_min_7cf53_9 rfl ?_
    refine go_mask [false, false] (loc' := [none, none]) rfl ?_
    exact okj_J9_min_7cf53_10 v1 h  H
  · rw [if_neg c1] at H
    refine go_iloadn dJ9_min_7cf53_5 rfl ?_
    refine go_goto (tgt := 10) dJ9_min_7cf53_6 (by decide) ?_
    refine go_mask [false, false] (loc' := [none, none]) rfl ?_
    exact okj_J9_min_7cf53_10 v0 h  H
/-! X7_most -/
def j_X7_most_133 (v0 : Nat)  (h : Hp) : Option Int32 :=
  (gfR h v0 7 2).bind fun x1 => (gfI h x1 6 0).bind fun x2 => (m_J9_min_7cf53 (8 : Int32) x2 h).bind fun x3 => some (x3 - (1 : Int32))
set_option maxRecDepth 20000 in
theorem okj_X7_most_133 {r : Int32} (v0 : Nat)  (h : Hp) (H : j_X7_most_133 v0 h = some r) : Go M_X7_most (some (aI r), h) 133 [some (aA v0), none] [] h := by
  unfold j_X7_most_133 at H
  refine go_bipush (v := (8 : Int32)) dX7_most_133 rfl ?_
  refine go_aloadn dX7_most_135 rfl ?_
  refine gm_getR fd_X7_28 dX7_most_136 H (fun x1 H => ?_)
  refine gm_getI fd_X7_49 dX7_most_139 H (fun x2 H => ?_)
  obtain ⟨x3, ex3, H⟩ := bind_some H
  refine go_callS (vs := [aI (8 : Int32), aI x2]) (stk := []) (o1 := (some (aI x3), h)) mk_J9_min_7cf53 ss_X7_most_120 dX7_most_142 rfl rfl (Nat.le_of_ble_eq_true rfl) (Nat.le_of_ble_eq_true rfl) (ok_J9_min_7cf53 ex3) (show Go M_X7_most (some (aI r), h) 145 [some (aA v0), none] [aI x3] h from ?_)
  refine go_iconst (v := (1 : Int32)) dX7_most_145 rfl ?_
  refine go_isub dX7_most_146 ?_
  obtain rfl := Option.some.inj H
  exact go_ireturn dX7_most_147 (tyI_int rfl)
def j_X7_most_89  (s0 : Int32) (h : Hp) : Option Int32 :=
  some s0
set_option maxRecDepth 20000 in
theorem okj_X7_most_89 {r : Int32}  (s0 : Int32) (h : Hp) (H : j_X7_most_89 s0 h = some r) : Go M_X7_most (some (aI r), h) 89 [none, none] [aI s0] h := by
  unfold j_X7_most_89 at H
  obtain rfl := Option.some.inj H
  exact go_ireturn dX7_most_89 (tyI_int rfl)
def j_X7_most_110  (s0 : Int32) (h : Hp) : Option Int32 :=
  some s0
set_option maxRecDepth 20000 in
theorem okj_X7_most_110 {r : Int32}  (s0 : Int32) (h : Hp) (H : j_X7_most_110 s0 h = some r) : Go M_X7_most (some (aI r), h) 110 [none, none] [aI s0] h := by
  unfold j_X7_most_110 at H
  obtain rfl := Option.some.inj H
  exact go_ireturn dX7_most_110 (tyI_int rfl)
def j_X7_most_121  (s0 : Int32) (h : Hp) : Option Int32 :=
  some s0
set_option maxRecDepth 20000 in
theorem okj_X7_most_121 {r : Int32}  (s0 : Int32) (h : Hp) (H : j_X7_most_121 s0 h = some r) : Go M_X7_most (some (aI r), h) 121 [none, none] [aI s0] h := by
  unfold j_X7_most_121 at H
  obtain rfl := Option.some.inj H
  exact go_ireturn dX7_most_121 (tyI_int rfl)
def j_X7_most_132  (s0 : Int32) (h : Hp) : Option Int32 :=
  some s0
set_option maxRecDepth 20000 in
theorem okj_X7_most_132 {r : Int32}  (s0 : Int32) (h : Hp) (H : j_X7_most_132 s0 h = some r) : Go M_X7_most (some (aI r), h) 132 [none, none] [aI s0] h := by
  unfold j_X7_most_132 at H
  obtain rfl := Option.some.inj H
  exact go_ireturn dX7_most_132 (tyI_int rfl)
def j_X7_most_122 (v1 : Int32)  (h : Hp) : Option Int32 :=
  j_X7_most_132 (if ¬ v1 = 0 then (9 : Int32) else (3 : Int32)) h
set_option maxRecDepth 20000 in
theorem okj_X7_most_122 {r : Int32} (v1 : Int32)  (h : Hp) (H : j_X7_most_122 v1 h = some r) : Go M_X7_most (some (aI r), h) 122 [none, some (aI v1)] [] h := by
  unfold j_X7_most_122 at H
  refine go_iloadn dX7_most_122 rfl ?_
  refine go_if_ne (tgt := 130) dX7_most_123 (by decide) (fun c1 => ?_) (fun c1 => ?_)
  · rw [if_pos c1] at H
    refine go_bipush (v := (9 : Int32)) dX7_most_130 rfl ?_
    refine go_mask [false, false] (loc' := [none, none]) rfl ?_
    exact okj_X7_most_132 (9 : Int32) h  H
  · rw [if_neg c1] at H
    refine go_iconst (v := (3 : Int32)) dX7_most_126 rfl ?_
    refine go_goto (tgt := 132) dX7_most_127 (by decide) ?_
    refine go_mask [false, false] (loc' := [none, none]) rfl ?_
    exact okj_X7_most_132 (3 : Int32) h  H
def m_X7_most (v0 : Nat) (v1 : Int32) (h : Hp) : Option Int32 :=
  (gfR h v0 7 0).bind fun x1 => (gfI h x1 5 0).bind fun x2 => if x2 = (1 : Int32) then (some (9 : Int32)) else if x2 = (2 : Int32) then (some (9 : Int32)) else if x2 = (3 : Int32) then (j_X7_most_133 v0 h) else if x2 = (4 : Int32) then (j_X7_most_133 v0 h) else if x2 = (5 : Int32) then (j_X7_most_133 v0 h) else if x2 = (6 : Int32) then (j_X7_most_133 v0 h) else if x2 = (7 : Int32) then (j_X7_most_133 v0 h) else if x2 = (8 : Int32) then (j_X7_most_133 v0 h) else if x2 = (9 : Int32) then (j_X7_most_89 (if ¬ v1 = 0 then (20 : Int32) else (3 : Int32)) h) else if x2 = (10 : Int32) then (j_X7_most_110 (if ¬ v1 = 0 then (if ¬ v1 = (1 : Int32) then (20 : Int32) else (19 : Int32)) else (3 : Int32)) h) else if x2 = (11 : Int32) then (j_X7_most_121 (if ¬ v1 = 0 then (19 : Int32) else (3 : Int32)) h) else if x2 = (12 : Int32) then (j_X7_most_122 v1 h) else if x2 = (13 : Int32) then (j_X7_most_122 v1 h) else if x2 = (14 : Int32) then (j_X7_most_122 v1 h) else j_X7_most_133 v0 h
set_option maxRecDepth 20000 in
theorem ok_X7_most {r : Int32} {v0 : Nat} {v1 : Int32} {h : Hp} (H : m_X7_most v0 v1 h = some r) : Ev M_X7_most [aA v0, aI v1] h (some (aI r), h) := by
  show Go M_X7_most (some (aI r), h) 0 [some (aA v0), some (aI v1)] [] h
  unfold m_X7_most at H
  refine go_aloadn dX7_most_0 rfl ?_
  refine gm_getR fd_X7_12 dX7_most_1 H (fun x1 H => ?_)
  refine gm_getI fd_X7_117 dX7_most_4 H (fun x2 H => ?_)
  by_cases c1 : x2 = (1 : Int32)
  · replace H := (gm_ite H).1 c1
    refine go_eqI c1 ?_
    refine go_tableIn (tgt := 76) dX7_most_7 (by decide) (by decide) rfl (by decide) ?_
    refine go_bipush (v := (9 : Int32)) dX7_most_76 rfl ?_
    obtain rfl := Option.some.inj H
    exact go_ireturn dX7_most_78 (tyI_int rfl)
  · replace H := (gm_ite H).2 c1
    by_cases c2 : x2 = (2 : Int32)
    · replace H := (gm_ite H).1 c2
      refine go_eqI c2 ?_
      refine go_tableIn (tgt := 76) dX7_most_7 (by decide) (by decide) rfl (by decide) ?_
      refine go_bipush (v := (9 : Int32)) dX7_most_76 rfl ?_
      obtain rfl := Option.some.inj H
      exact go_ireturn dX7_most_78 (tyI_int rfl)
    · replace H := (gm_ite H).2 c2
      by_cases c3 : x2 = (3 : Int32)
      · replace H := (gm_ite H).1 c3
        refine go_eqI c3 ?_
        refine go_tableIn (tgt := 133) dX7_most_7 (by decide) (by decide) rfl (by decide) ?_
        refine go_mask [true, false] (loc' := [some (aA v0), none]) rfl ?_
        exact okj_X7_most_133 v0 h  H
      · replace H := (gm_ite H).2 c3
        by_cases c4 : x2 = (4 : Int32)
        · replace H := (gm_ite H).1 c4
          refine go_eqI c4 ?_
          refine go_tableIn (tgt := 133) dX7_most_7 (by decide) (by decide) rfl (by decide) ?_
          refine go_mask [true, false] (loc' := [some (aA v0), none]) rfl ?_
          exact okj_X7_most_133 v0 h  H
        · replace H := (gm_ite H).2 c4
          by_cases c5 : x2 = (5 : Int32)
          · replace H := (gm_ite H).1 c5
            refine go_eqI c5 ?_
            refine go_tableIn (tgt := 133) dX7_most_7 (by decide) (by decide) rfl (by decide) ?_
            refine go_mask [true, false] (loc' := [some (aA v0), none]) rfl ?_
            exact okj_X7_most_133 v0 h  H
          · replace H := (gm_ite H).2 c5
            by_cases c6 : x2 = (6 : Int32)
            · replace H := (gm_ite H).1 c6
              refine go_eqI c6 ?_
              refine go_tableIn (tgt := 133) dX7_most_7 (by decide) (by decide) rfl (by decide) ?_
              refine go_mask [true, false] (loc' := [some (aA v0), none]) rfl ?_
              exact okj_X7_most_133 v0 h  H
            · replace H := (gm_ite H).2 c6
              by_cases c7 : x2 = (7 : Int32)
              · replace H := (gm_ite H).1 c7
                refine go_eqI c7 ?_
                refine go_tableIn (tgt := 133) dX7_most_7 (by decide) (by decide) rfl (by decide) ?_
                refine go_mask [true, false] (loc' := [some (aA v0), none]) rfl ?_
                exact okj_X7_most_133 v0 h  H
              · replace H := (gm_ite H).2 c7
                by_cases c8 : x2 = (8 : Int32)
                · replace H := (gm_ite H).1 c8
                  refine go_eqI c8 ?_
                  refine go_tableIn (tgt := 133) dX7_most_7 (by decide) (by decide) rfl (by decide) ?_
                  refine go_mask [true, false] (loc' := [some (aA v0), none]) rfl ?_
                  exact okj_X7_most_133 v0 h  H
                · replace H := (gm_ite H).2 c8
                  by_cases c9 : x2 = (9 : Int32)
                  · replace H := (gm_ite H).1 c9
                    refine go_eqI c9 ?_
                    refine go_tableIn (tgt := 79) dX7_most_7 (by decide) (by decide) rfl (by decide) ?_
                    refine go_iloadn dX7_most_79 rfl ?_
                    refine go_if_ne (tgt := 87) dX7_most_80 (by decide) (fun c10 => ?_) (fun c10 => ?_)
                    · rw [if_pos c10] at H
                      refine go_bipush (v := (20 : Int32)) dX7_most_87 rfl ?_
                      refine go_mask [false, false] (loc' := [none, none]) rfl ?_
                      exact okj_X7_most_89 (20 : Int32) h  H
                    · rw [if_neg c10] at H
                      refine go_iconst (v := (3 : Int32)) dX7_most_83 rfl ?_
                      refine go_goto (tgt := 89) dX7_most_84 (by decide) ?_
                      refine go_mask [false, false] (loc' := [none, none]) rfl ?_
                      exact okj_X7_most_89 (3 : Int32) h  H
                  · replace H := (gm_ite H).2 c9
                    by_cases c11 : x2 = (10 : Int32)
                    · replace H := (gm_ite H).1 c11
                      refine go_eqI c11 ?_
                      refine go_tableIn (tgt := 90) dX7_most_7 (by decide) (by decide) rfl (by decide) ?_
                      refine go_iloadn dX7_most_90 rfl ?_
                      refine go_if_ne (tgt := 98) dX7_most_91 (by decide) (fun c12 => ?_) (fun c12 => ?_)
                      · rw [if_pos c12] at H
                        refine go_iloadn dX7_most_98 rfl ?_
                        refine go_iconst (v := (1 : Int32)) dX7_most_99 rfl ?_
                        refine go_icmp_ne (tgt := 108) dX7_most_100 (by decide) (fun c13 => ?_) (fun c13 => ?_)
                        · rw [if_pos c13] at H
                          refine go_bipush (v := (20 : Int32)) dX7_most_108 rfl ?_
                          refine go_mask [false, false] (loc' := [none, none]) rfl ?_
                          exact okj_X7_most_110 (20 : Int32) h  H
                        · rw [if_neg c13] at H
                          refine go_bipush (v := (19 : Int32)) dX7_most_103 rfl ?_
                          refine go_goto (tgt := 110) dX7_most_105 (by decide) ?_
                          refine go_mask [false, false] (loc' := [none, none]) rfl ?_
                          exact okj_X7_most_110 (19 : Int32) h  H
                      · rw [if_neg c12] at H
                        refine go_iconst (v := (3 : Int32)) dX7_most_94 rfl ?_
                        refine go_goto (tgt := 110) dX7_most_95 (by decide) ?_
                        refine go_mask [false, false] (loc' := [none, none]) rfl ?_
                        exact okj_X7_most_110 (3 : Int32) h  H
                    · replace H := (gm_ite H).2 c11
                      by_cases c14 : x2 = (11 : Int32)
                      · replace H := (gm_ite H).1 c14
                        refine go_eqI c14 ?_
                        refine go_tableIn (tgt := 111) dX7_most_7 (by decide) (by decide) rfl (by decide) ?_
                        refine go_iloadn dX7_most_111 rfl ?_
                        refine go_if_ne (tgt := 119) dX7_most_112 (by decide) (fun c15 => ?_) (fun c15 => ?_)
                        · rw [if_pos c15] at H
                          refine go_bipush (v := (19 : Int32)) dX7_most_119 rfl ?_
                          refine go_mask [false, false] (loc' := [none, none]) rfl ?_
                          exact okj_X7_most_121 (19 : Int32) h  H
                        · rw [if_neg c15] at H
                          refine go_iconst (v := (3 : Int32)) dX7_most_115 rfl ?_
                          refine go_goto (tgt := 121) dX7_most_116 (by decide) ?_
                          refine go_mask [false, false] (loc' := [none, none]) rfl ?_
                          exact okj_X7_most_121 (3 : Int32) h  H
                      · replace H := (gm_ite H).2 c14
                        by_cases c16 : x2 = (12 : Int32)
                        · replace H := (gm_ite H).1 c16
                          refine go_eqI c16 ?_
                          refine go_tableIn (tgt := 122) dX7_most_7 (by decide) (by decide) rfl (by decide) ?_
                          refine go_mask [false, true] (loc' := [none, some (aI v1)]) rfl ?_
                          exact okj_X7_most_122 v1 h  H
                        · replace H := (gm_ite H).2 c16
                          by_cases c17 : x2 = (13 : Int32)
                          · replace H := (gm_ite H).1 c17
                            refine go_eqI c17 ?_
                            refine go_tableIn (tgt := 122) dX7_most_7 (by decide) (by decide) rfl (by decide) ?_
                            refine go_mask [false, true] (loc' := [none, some (aI v1)]) rfl ?_
                            exact okj_X7_most_122 v1 h  H
                          · replace H := (gm_ite H).2 c17
                            by_cases c18 : x2 = (14 : Int32)
                            · replace H := (gm_ite H).1 c18
                              refine go_eqI c18 ?_
                              refine go_tableIn (tgt := 122) dX7_most_7 (by decide) (by decide) rfl (by decide) ?_
                              refine go_mask [false, true] (loc' := [none, some (aI v1)]) rfl ?_
                              exact okj_X7_most_122 v1 h  H
                            · replace H := (gm_ite H).2 c18
                              refine go_tableOut (tgt := 133) dX7_most_7 (sw_out (fun i h1 h2 e => ?_)) (by decide) ?_
                              · have h3 : i = 1 ∨ i = 2 ∨ i = 3 ∨ i = 4 ∨ i = 5 ∨ i = 6 ∨ i = 7 ∨ i = 8 ∨ i = 9 ∨ i = 10 ∨ i = 11 ∨ i = 12 ∨ i = 13 ∨ i = 14 := by omega
                                rcases h3 with rfl | rfl | rfl | rfl | rfl | rfl | rfl | rfl | rfl | rfl | rfl | rfl | rfl | rfl
                                · exact sw_ne c1 (by decide) e
                                · exact sw_ne c2 (by decide) e
                                · exact sw_ne c3 (by decide) e
                                · exact sw_ne c4 (by decide) e
                                · exact sw_ne c5 (by decide) e
                                · exact sw_ne c6 (by decide) e
                                · exact sw_ne c7 (by decide) e
                                · exact sw_ne c8 (by decide) e
                                · exact sw_ne c9 (by decide) e
                                · exact sw_ne c11 (by decide) e
                                · exact sw_ne c14 (by decide) e
                                · exact sw_ne c16 (by decide) e
                                · exact sw_ne c17 (by decide) e
                                · exact sw_ne c18 (by decide) e
                              · skip
                                refine go_mask [true, false] (loc' := [some (aA v0), none]) rfl ?_
                                exact okj_X7_most_133 v0 h  H
/-! X7_noteWhatCanNotBe -/
def j_X7_noteWhatCanNotBe_61 (v0 : Nat) (v1 : Int32)  (h : Hp) (K67 : Hp → Option Hp) (k : Int32 → Hp → Option Hp) : Option Hp :=
  k (v1 + (1 : Int32)) h
set_option maxRecDepth 20000 in
theorem okj_X7_noteWhatCanNotBe_61 {r : Hp} (v0 : Nat) (v1 : Int32)  (h : Hp) (K67 : Hp → Option Hp) (k : Int32 → Hp → Option Hp) (HK67 : ∀   (hq : Hp), K67 hq = some r → Go M_X7_noteWhatCanNotBe (none, r) 67 [some (aA v0), none] [] hq) (Hk : ∀ (v1q : Int32) (hq : Hp), k v1q hq = some r → Go M_X7_noteWhatCanNotBe (none, r) 2 [some (aA v0), some (aI v1q)] [] hq) (H : j_X7_noteWhatCanNotBe_61 v0 v1 h K67 k = some r) : Go M_X7_noteWhatCanNotBe (none, r) 61 [some (aA v0), some (aI v1)] [] h := by
  unfold j_X7_noteWhatCanNotBe_61 at H
  refine go_iinc (v := (v1 + (1 : Int32))) (loc2 := [some (aA v0), some (aI (v1 + (1 : Int32)))]) dX7_noteWhatCanNotBe_61 rfl rfl (by decide) rfl ?_
  refine go_goto (tgt := 2) dX7_noteWhatCanNotBe_64 (by decide) ?_
  exact Hk (v1 + (1 : Int32)) h H
def j_X7_noteWhatCanNotBe_45 (v0 : Nat) (v1 : Int32)  (h : Hp) (K67 : Hp → Option Hp) (k : Int32 → Hp → Option Hp) : Option Hp :=
  (gfR h v0 7 0).bind fun x1 => (gfR h x1 5 6).bind fun x2 => (m_X5_at x2 v1 h).bind fun x3 => (rc h v0 7 (m_X7_note v0 (2 : Int32) x3 h)).bind fun x4 => j_X7_noteWhatCanNotBe_61 v0 v1 x4 K67 k
set_option maxRecDepth 20000 in
theorem okj_X7_noteWhatCanNotBe_45 {r : Hp} (v0 : Nat) (v1 : Int32)  (h : Hp) (K67 : Hp → Option Hp) (k : Int32 → Hp → Option Hp) (HK67 : ∀   (hq : Hp), K67 hq = some r → Go M_X7_noteWhatCanNotBe (none, r) 67 [some (aA v0), none] [] hq) (Hk : ∀ (v1q : Int32) (hq : Hp), k v1q hq = some r → Go M_X7_noteWhatCanNotBe (none, r) 2 [some (aA v0), some (aI v1q)] [] hq) (H : j_X7_noteWhatCanNotBe_45 v0 v1 h K67 k = some r) : Go M_X7_noteWhatCanNotBe (none, r) 45 [some (aA v0), some (aI v1)] [] h := by
  unfold j_X7_noteWhatCanNotBe_45 at H
  refine go_aloadn dX7_noteWhatCanNotBe_45 rfl ?_
  refine go_iconst (v := (2 : Int32)) dX7_noteWhatCanNotBe_46 rfl ?_
  refine go_aloadn dX7_noteWhatCanNotBe_47 rfl ?_
  refine gm_getR fd_X7_12 dX7_noteWhatCanNotBe_48 H (fun x1 H => ?_)
  refine gm_getR fd_X7_104 dX7_noteWhatCanNotBe_51 H (fun x2 H => ?_)
  refine go_iloadn dX7_noteWhatCanNotBe_54 rfl ?_
  obtain ⟨x3, ex3, H⟩ := bind_some H
  refine go_callS (vs := [aA x2, aI v1]) (stk := [aI (2 : Int32), aA v0]) (o1 := (some (aI x3), h)) mk_X5_at ss_X7_noteWhatCanNotBe_108 dX7_noteWhatCanNotBe_55 rfl rfl (Nat.le_of_ble_eq_true rfl) (Nat.le_of_ble_eq_true rfl) (ok_X5_at ex3) (show Go M_X7_noteWhatCanNotBe (none, r) 58 [some (aA v0), some (aI v1)] [aI x3, aI (2 : Int32), aA v0] h from ?_)
  obtain ⟨c2, x4, ex4, H⟩ := gm_rc H
  refine go_callV (vs := [aI (2 : Int32), aI x3]) (stk := []) (o1 := (none, x4)) mk_X7_note sv_X7_noteWhatCanNotBe_87 cl_X7 rfl dX7_noteWhatCanNotBe_58 c2 rfl rfl (Nat.le_of_ble_eq_true rfl) (Nat.le_of_ble_eq_true rfl) (ok_X7_note ex4) (show Go M_X7_noteWhatCanNotBe (none, r) 61 [some (aA v0), some (aI v1)] [] x4 from ?_)
  exact okj_X7_noteWhatCanNotBe_61 v0 v1 x4 K67 k HK67 Hk H
def b_X7_noteWhatCanNotBe_2 (v0 : Nat) (K67 : Hp → Option Hp) (k : Int32 → Hp → Option Hp) (v1 : Int32) (h : Hp) : Option Hp :=
  (gfR h v0 7 0).bind fun x1 => (gfI h x1 5 2).bind fun x2 => if x2 ≤ v1 then K67 h else (gfR h v0 7 0).bind fun x3 => (rc h x3 5 (m_X4_value x3 v1 h)).bind fun x4 => (rc h v0 7 (m_X7_least v0 v1 h)).bind fun x5 => if x4 < x5 then j_X7_noteWhatCanNotBe_45 v0 v1 h K67 k else (gfR h v0 7 0).bind fun x6 => (rc h x6 5 (m_X4_value x6 v1 h)).bind fun x7 => (rc h v0 7 (m_X7_most v0 v1 h)).bind fun x8 => if x7 ≤ x8 then j_X7_noteWhatCanNotBe_61 v0 v1 h K67 k else j_X7_noteWhatCanNotBe_45 v0 v1 h K67 k
set_option maxRecDepth 20000 in
theorem okb_X7_noteWhatCanNotBe_2 {r : Hp} (v0 : Nat) (K67 : Hp → Option Hp) (k : Int32 → Hp → Option Hp) (v1 : Int32) (h : Hp) (HK67 : ∀   (hq : Hp), K67 hq = some r → Go M_X7_noteWhatCanNotBe (none, r) 67 [some (aA v0), none] [] hq) (Hk : ∀ (v1q : Int32) (hq : Hp), k v1q hq = some r → Go M_X7_noteWhatCanNotBe (none, r) 2 [some (aA v0), some (aI v1q)] [] hq) (H : b_X7_noteWhatCanNotBe_2 v0 K67 k v1 h = some r) : Go M_X7_noteWhatCanNotBe (none, r) 2 [some (aA v0), some (aI v1)] [] h := by
  unfold b_X7_noteWhatCanNotBe_2 at H
  refine go_iloadn dX7_noteWhatCanNotBe_2 rfl ?_
  refine go_aloadn dX7_noteWhatCanNotBe_3 rfl ?_
  refine gm_getR fd_X7_12 dX7_noteWhatCanNotBe_4 H (fun x1 H => ?_)
  refine gm_getI fd_X7_91 dX7_noteWhatCanNotBe_7 H (fun x2 H => ?_)
  refine go_icmp_ge (tgt := 67) dX7_noteWhatCanNotBe_10 (by decide) (fun c1 => ?_) (fun c1 => ?_)
  · replace H := (gm_ite H).1 c1
    refine go_mask [true, false] (loc' := [some (aA v0), none]) rfl ?_
    exact HK67 h H
  · replace H := (gm_ite H).2 c1
    refine go_aloadn dX7_noteWhatCanNotBe_13 rfl ?_
    refine gm_getR fd_X7_12 dX7_noteWhatCanNotBe_14 H (fun x3 H => ?_)
    refine go_iloadn dX7_noteWhatCanNotBe_17 rfl ?_
    obtain ⟨c2, x4, ex4, H⟩ := gm_rc H
    refine go_callV (vs := [aI v1]) (stk := []) (o1 := (some (aI x4), h)) mk_X4_value sv_X7_noteWhatCanNotBe_94 cl_X4 rfl dX7_noteWhatCanNotBe_18 c2 rfl rfl (Nat.le_of_ble_eq_true rfl) (Nat.le_of_ble_eq_true rfl) (ok_X4_value ex4) (show Go M_X7_noteWhatCanNotBe (none, r) 21 [some (aA v0), some (aI v1)] [aI x4] h from ?_)
    refine go_aloadn dX7_noteWhatCanNotBe_21 rfl ?_
    refine go_iloadn dX7_noteWhatCanNotBe_22 rfl ?_
    obtain ⟨c3, x5, ex5, H⟩ := gm_rc H
    refine go_callV (vs := [aI v1]) (stk := [aI x4]) (o1 := (some (aI x5), h)) mk_X7_least sv_X7_noteWhatCanNotBe_98 cl_X7 rfl dX7_noteWhatCanNotBe_23 c3 rfl rfl (Nat.le_of_ble_eq_true rfl) (Nat.le_of_ble_eq_true rfl) (ok_X7_least ex5) (show Go M_X7_noteWhatCanNotBe (none, r) 26 [some (aA v0), some (aI v1)] [aI x5, aI x4] h from ?_)
    refine go_icmp_lt (tgt := 45) dX7_noteWhatCanNotBe_26 (by decide) (fun c4 => ?_) (fun c4 => ?_)
    · replace H := (gm_ite H).1 c4
      exact okj_X7_noteWhatCanNotBe_45 v0 v1 h K67 k HK67 Hk H
    · replace H := (gm_ite H).2 c4
      refine go_aloadn dX7_noteWhatCanNotBe_29 rfl ?_
      refine gm_getR fd_X7_12 dX7_noteWhatCanNotBe_30 H (fun x6 H => ?_)
      refine go_iloadn dX7_noteWhatCanNotBe_33 rfl ?_
      obtain ⟨c5, x7, ex7, H⟩ := gm_rc H
      refine go_callV (vs := [aI v1]) (stk := []) (o1 := (some (aI x7), h)) mk_X4_value sv_X7_noteWhatCanNotBe_94 cl_X4 rfl dX7_noteWhatCanNotBe_34 c5 rfl rfl (Nat.le_of_ble_eq_true rfl) (Nat.le_of_ble_eq_true rfl) (ok_X4_value ex7) (show Go M_X7_noteWhatCanNotBe (none, r) 37 [some (aA v0), some (aI v1)] [aI x7] h from ?_)
      refine go_aloadn dX7_noteWhatCanNotBe_37 rfl ?_
      refine go_iloadn dX7_noteWhatCanNotBe_38 rfl ?_
      obtain ⟨c6, x8, ex8, H⟩ := gm_rc H
      refine go_callV (vs := [aI v1]) (stk := [aI x7]) (o1 := (some (aI x8), h)) mk_X7_most sv_X7_noteWhatCanNotBe_101 cl_X7 rfl dX7_noteWhatCanNotBe_39 c6 rfl rfl (Nat.le_of_ble_eq_true rfl) (Nat.le_of_ble_eq_true rfl) (ok_X7_most ex8) (show Go M_X7_noteWhatCanNotBe (none, r) 42 [some (aA v0), some (aI v1)] [aI x8, aI x7] h from ?_)
      refine go_icmp_le (tgt := 61) dX7_noteWhatCanNotBe_42 (by decide) (fun c7 => ?_) (fun c7 => ?_)
      · replace H := (gm_ite H).1 c7
        exact okj_X7_noteWhatCanNotBe_61 v0 v1 h K67 k HK67 Hk H
      · replace H := (gm_ite H).2 c7
        exact okj_X7_noteWhatCanNotBe_45 v0 v1 h K67 k HK67 Hk H
def l_X7_noteWhatCanNotBe_2 (v0 : Nat) (K67 : Hp → Option Hp) (v1 : Int32) (h : Hp) : Option Hp := loopK FUEL (fun (k : Int32 × Hp → Option Hp) (s : Int32 × Hp) => b_X7_noteWhatCanNotBe_2 v0 K67 (fun v1q hq => k (v1q, hq)) s.1 s.2) (v1, h)
theorem okl_X7_noteWhatCanNotBe_2 {r : Hp} (v0 : Nat) (K67 : Hp → Option Hp) (v1 : Int32) (h : Hp) (HK67 : ∀   (hq : Hp), K67 hq = some r → Go M_X7_noteWhatCanNotBe (none, r) 67 [some (aA v0), none] [] hq) (H : l_X7_noteWhatCanNotBe_2 v0 K67 v1 h = some r) : Go M_X7_noteWhatCanNotBe (none, r) 2 [some (aA v0), some (aI v1)] [] h := by
  unfold l_X7_noteWhatCanNotBe_2 at H
  exact go_loop (σ := Int32 × Hp) (body := (fun (k : Int32 × Hp → Option Hp) (s : Int32 × Hp) => b_X7_noteWhatCanNotBe_2 v0 K67 (fun v1q hq => k (v1q, hq)) s.1 s.2)) (fun s => [some (aA v0), some (aI s.1)]) (fun s => s.2) (fun k s Hk H => okb_X7_noteWhatCanNotBe_2 v0 K67 (fun v1q hq => k (v1q, hq)) s.1 s.2 HK67 (fun v1q hq H => Hk (v1q, hq) H) H) FUEL (v1, h) H
def j_X7_noteWhatCanNotBe_67 (v0 : Nat)  (h : Hp) : Option Hp :=
  (gfR h v0 7 0).bind fun x1 => (gfI h x1 5 4).bind fun x2 => if x2 = (-1 : Int32) then (some h) else (gfR h v0 7 0).bind fun x3 => (gfI h x3 5 4).bind fun x4 => (rc h v0 7 (m_X7_note v0 (2 : Int32) x4 h)).bind fun x5 => some x5
set_option maxRecDepth 20000 in
theorem okj_X7_noteWhatCanNotBe_67 {r : Hp} (v0 : Nat)  (h : Hp) (H : j_X7_noteWhatCanNotBe_67 v0 h = some r) : Go M_X7_noteWhatCanNotBe (none, r) 67 [some (aA v0), none] [] h := by
  unfold j_X7_noteWhatCanNotBe_67 at H
  refine go_aloadn dX7_noteWhatCanNotBe_67 rfl ?_
  refine gm_getR fd_X7_12 dX7_noteWhatCanNotBe_68 H (fun x1 H => ?_)
  refine gm_getI fd_X7_114 dX7_noteWhatCanNotBe_71 H (fun x2 H => ?_)
  refine go_iconst (v := (-1 : Int32)) dX7_noteWhatCanNotBe_74 rfl ?_
  refine go_icmp_eq (tgt := 90) dX7_noteWhatCanNotBe_75 (by decide) (fun c1 => ?_) (fun c1 => ?_)
  · replace H := (gm_ite H).1 c1
    obtain rfl := Option.some.inj H
    exact go_return dX7_noteWhatCanNotBe_90 rfl
  · replace H := (gm_ite H).2 c1
    refine go_aloadn dX7_noteWhatCanNotBe_78 rfl ?_
    refine go_iconst (v := (2 : Int32)) dX7_noteWhatCanNotBe_79 rfl ?_
    refine go_aloadn dX7_noteWhatCanNotBe_80 rfl ?_
    refine gm_getR fd_X7_12 dX7_noteWhatCanNotBe_81 H (fun x3 H => ?_)
    refine gm_getI fd_X7_114 dX7_noteWhatCanNotBe_84 H (fun x4 H => ?_)
    obtain ⟨c2, x5, ex5, H⟩ := gm_rc H
    refine go_callV (vs := [aI (2 : Int32), aI x4]) (stk := []) (o1 := (none, x5)) mk_X7_note sv_X7_noteWhatCanNotBe_87 cl_X7 rfl dX7_noteWhatCanNotBe_87 c2 rfl rfl (Nat.le_of_ble_eq_true rfl) (Nat.le_of_ble_eq_true rfl) (ok_X7_note ex5) (show Go M_X7_noteWhatCanNotBe (none, r) 90 [some (aA v0), none] [] x5 from ?_)
    obtain rfl := Option.some.inj H
    exact go_return dX7_noteWhatCanNotBe_90 rfl
def m_X7_noteWhatCanNotBe (v0 : Nat) (h : Hp) : Option Hp :=
  l_X7_noteWhatCanNotBe_2 v0 (fun hz1 => j_X7_noteWhatCanNotBe_67 v0 hz1) (0 : Int32) h
set_option maxRecDepth 20000 in
theorem ok_X7_noteWhatCanNotBe {r : Hp} {v0 : Nat} {h : Hp} (H : m_X7_noteWhatCanNotBe v0 h = some r) : Ev M_X7_noteWhatCanNotBe [aA v0] h (none, r) := by
  show Go M_X7_noteWhatCanNotBe (none, r) 0 [some (aA v0), none] [] h
  unfold m_X7_noteWhatCanNotBe at H
  refine go_iconst (v := (0 : Int32)) dX7_noteWhatCanNotBe_0 rfl ?_
  refine go_istoren (loc2 := [some (aA v0), some (aI (0 : Int32))]) dX7_noteWhatCanNotBe_1 rfl (by decide) rfl ?_
  refine okl_X7_noteWhatCanNotBe_2 v0 (fun hz1 => j_X7_noteWhatCanNotBe_67 v0 hz1) (0 : Int32) h ?_ H
  · intro hz1 H
    exact okj_X7_noteWhatCanNotBe_67 v0 hz1  H
/-! X7_noteTooManyWords -/
def m_X7_noteTooManyWords (v0 : Nat) (v1 : Int32) (h : Hp) : Option Hp :=
  (gfR h v0 7 0).bind fun x1 => (gfI h x1 5 3).bind fun x2 => if x2 ≤ v1 then (some h) else (gfR h v0 7 0).bind fun x3 => (gfR h x3 5 8).bind fun x4 => (m_X5_at x4 v1 h).bind fun x5 => (rc h v0 7 (m_X7_note v0 (3 : Int32) x5 h)).bind fun x6 => some x6
set_option maxRecDepth 20000 in
theorem ok_X7_noteTooManyWords {r : Hp} {v0 : Nat} {v1 : Int32} {h : Hp} (H : m_X7_noteTooManyWords v0 v1 h = some r) : Ev M_X7_noteTooManyWords [aA v0, aI v1] h (none, r) := by
  show Go M_X7_noteTooManyWords (none, r) 0 [some (aA v0), some (aI v1)] [] h
  unfold m_X7_noteTooManyWords at H
  refine go_aloadn dX7_noteTooManyWords_0 rfl ?_
  refine gm_getR fd_X7_12 dX7_noteTooManyWords_1 H (fun x1 H => ?_)
  refine gm_getI fd_X7_158 dX7_noteTooManyWords_4 H (fun x2 H => ?_)
  refine go_iloadn dX7_noteTooManyWords_7 rfl ?_
  refine go_icmp_le (tgt := 27) dX7_noteTooManyWords_8 (by decide) (fun c1 => ?_) (fun c1 => ?_)
  · replace H := (gm_ite H).1 c1
    obtain rfl := Option.some.inj H
    exact go_return dX7_noteTooManyWords_27 rfl
  · replace H := (gm_ite H).2 c1
    refine go_aloadn dX7_noteTooManyWords_11 rfl ?_
    refine go_iconst (v := (3 : Int32)) dX7_noteTooManyWords_12 rfl ?_
    refine go_aloadn dX7_noteTooManyWords_13 rfl ?_
    refine gm_getR fd_X7_12 dX7_noteTooManyWords_14 H (fun x3 H => ?_)
    refine gm_getR fd_X7_161 dX7_noteTooManyWords_17 H (fun x4 H => ?_)
    refine go_iloadn dX7_noteTooManyWords_20 rfl ?_
    obtain ⟨x5, ex5, H⟩ := bind_some H
    refine go_callS (vs := [aA x4, aI v1]) (stk := [aI (3 : Int32), aA v0]) (o1 := (some (aI x5), h)) mk_X5_at ss_X7_noteTooManyWords_108 dX7_noteTooManyWords_21 rfl rfl (Nat.le_of_ble_eq_true rfl) (Nat.le_of_ble_eq_true rfl) (ok_X5_at ex5) (show Go M_X7_noteTooManyWords (none, r) 24 [some (aA v0), some (aI v1)] [aI x5, aI (3 : Int32), aA v0] h from ?_)
    obtain ⟨c3, x6, ex6, H⟩ := gm_rc H
    refine go_callV (vs := [aI (3 : Int32), aI x5]) (stk := []) (o1 := (none, x6)) mk_X7_note sv_X7_noteTooManyWords_87 cl_X7 rfl dX7_noteTooManyWords_24 c3 rfl rfl (Nat.le_of_ble_eq_true rfl) (Nat.le_of_ble_eq_true rfl) (ok_X7_note ex6) (show Go M_X7_noteTooManyWords (none, r) 27 [some (aA v0), some (aI v1)] [] x6 from ?_)
    obtain rfl := Option.some.inj H
    exact go_return dX7_noteTooManyWords_27 rfl
/-! X0_versionsOf -/
def m_X0_versionsOf (v0 : Nat) (v1 : Int32) (h : Hp) : Option Int32 :=
  (gfR h v0 1 3).bind fun x1 => (m_X5_at x1 v1 h).bind fun x2 => some x2
set_option maxRecDepth 20000 in
theorem ok_X0_versionsOf {r : Int32} {v0 : Nat} {v1 : Int32} {h : Hp} (H : m_X0_versionsOf v0 v1 h = some r) : Ev M_X0_versionsOf [aA v0, aI v1] h (some (aI r), h) := by
  show Go M_X0_versionsOf (some (aI r), h) 0 [some (aA v0), some (aI v1)] [] h
  unfold m_X0_versionsOf at H
  refine go_aloadn dX0_versionsOf_0 rfl ?_
  refine gm_getR fd_X0_21 dX0_versionsOf_1 H (fun x1 H => ?_)
  refine go_iloadn dX0_versionsOf_4 rfl ?_
  obtain ⟨x2, ex2, H⟩ := bind_some H
  refine go_callS (vs := [aA x1, aI v1]) (stk := []) (o1 := (some (aI x2), h)) mk_X5_at ss_X0_versionsOf_87 dX0_versionsOf_5 rfl rfl (Nat.le_of_ble_eq_true rfl) (Nat.le_of_ble_eq_true rfl) (ok_X5_at ex2) (show Go M_X0_versionsOf (some (aI r), h) 8 [some (aA v0), some (aI v1)] [aI x2] h from ?_)
  obtain rfl := Option.some.inj H
  exact go_ireturn dX0_versionsOf_8 (tyI_int rfl)
/-! X0_hasDocument -/
def j_X0_hasDocument_17  (s0 : Int32) (h : Hp) : Option Int32 :=
  (zb s0).bind fun x1 => some x1
set_option maxRecDepth 20000 in
theorem okj_X0_hasDocument_17 {r : Int32}  (s0 : Int32) (h : Hp) (H : j_X0_hasDocument_17 s0 h = some r) : Go M_X0_hasDocument (some (aI r), h) 17 [none, none] [aI s0] h := by
  unfold j_X0_hasDocument_17 at H
  obtain ⟨hz, H⟩ := gm_zb H
  obtain rfl := Option.some.inj H
  exact go_ireturn (x := s0) dX0_hasDocument_17 (tyI_bool rfl hz)
def m_X0_hasDocument (v0 : Nat) (v1 : Int32) (h : Hp) : Option Int32 :=
  if v1 < 0 then j_X0_hasDocument_17 (0 : Int32) h else (gfI h v0 1 0).bind fun x1 => j_X0_hasDocument_17 (if x1 ≤ v1 then (0 : Int32) else (1 : Int32)) h
set_option maxRecDepth 20000 in
theorem ok_X0_hasDocument {r : Int32} {v0 : Nat} {v1 : Int32} {h : Hp} (H : m_X0_hasDocument v0 v1 h = some r) : Ev M_X0_hasDocument [aA v0, aI v1] h (some (aI r), h) := by
  show Go M_X0_hasDocument (some (aI r), h) 0 [some (aA v0), some (aI v1)] [] h
  unfold m_X0_hasDocument at H
  refine go_iloadn dX0_hasDocument_0 rfl ?_
  refine go_if_lt (tgt := 16) dX0_hasDocument_1 (by decide) (fun c1 => ?_) (fun c1 => ?_)
  · replace H := (gm_ite H).1 c1
    refine go_iconst (v := (0 : Int32)) dX0_hasDocument_16 rfl ?_
    refine go_mask [false, false] (loc' := [none, none]) rfl ?_
    exact okj_X0_hasDocument_17 (0 : Int32) h  H
  · replace H := (gm_ite H).2 c1
    refine go_iloadn dX0_hasDocument_4 rfl ?_
    refine go_aloadn dX0_hasDocument_5 rfl ?_
    refine gm_getI fd_X0_11 dX0_hasDocument_6 H (fun x1 H => ?_)
    refine go_icmp_ge (tgt := 16) dX0_hasDocument_9 (by decide) (fun c2 => ?_) (fun c2 => ?_)
    · rw [if_pos c2] at H
      refine go_iconst (v := (0 : Int32)) dX0_hasDocument_16 rfl ?_
      refine go_mask [false, false] (loc' := [none, none]) rfl ?_
      exact okj_X0_hasDocument_17 (0 : Int32) h  H
    · rw [if_neg c2] at H
      refine go_iconst (v := (1 : Int32)) dX0_hasDocument_12 rfl ?_
      refine go_goto (tgt := 17) dX0_hasDocument_13 (by decide) ?_
      refine go_mask [false, false] (loc' := [none, none]) rfl ?_
      exact okj_X0_hasDocument_17 (1 : Int32) h  H
/-! X0_slotOf -/
def m_X0_slotOf (v0 : Int32) (v1 : Int32) (h : Hp) : Option Int32 :=
  some ((v0 * (10 : Int32)) + v1)
set_option maxRecDepth 20000 in
theorem ok_X0_slotOf {r : Int32} {v0 : Int32} {v1 : Int32} {h : Hp} (H : m_X0_slotOf v0 v1 h = some r) : Ev M_X0_slotOf [aI v0, aI v1] h (some (aI r), h) := by
  show Go M_X0_slotOf (some (aI r), h) 0 [some (aI v0), some (aI v1)] [] h
  unfold m_X0_slotOf at H
  refine go_iloadn dX0_slotOf_0 rfl ?_
  refine go_bipush (v := (10 : Int32)) dX0_slotOf_1 rfl ?_
  refine go_imul dX0_slotOf_3 ?_
  refine go_iloadn dX0_slotOf_4 rfl ?_
  refine go_iadd dX0_slotOf_5 ?_
  obtain rfl := Option.some.inj H
  exact go_ireturn dX0_slotOf_6 (tyI_int rfl)
/-! X0_lengthOf -/
def m_X0_lengthOf (v0 : Nat) (v1 : Int32) (v2 : Int32) (h : Hp) : Option Int32 :=
  (gfR h v0 1 5).bind fun x1 => (m_X0_slotOf v1 v2 h).bind fun x2 => (m_X5_at x1 x2 h).bind fun x3 => some x3
set_option maxRecDepth 20000 in
theorem ok_X0_lengthOf {r : Int32} {v0 : Nat} {v1 : Int32} {v2 : Int32} {h : Hp} (H : m_X0_lengthOf v0 v1 v2 h = some r) : Ev M_X0_lengthOf [aA v0, aI v1, aI v2] h (some (aI r), h) := by
  show Go M_X0_lengthOf (some (aI r), h) 0 [some (aA v0), some (aI v1), some (aI v2)] [] h
  unfold m_X0_lengthOf at H
  refine go_aloadn dX0_lengthOf_0 rfl ?_
  refine gm_getR fd_X0_28 dX0_lengthOf_1 H (fun x1 H => ?_)
  refine go_iloadn dX0_lengthOf_4 rfl ?_
  refine go_iloadn dX0_lengthOf_5 rfl ?_
  obtain ⟨x2, ex2, H⟩ := bind_some H
  refine go_callS (vs := [aI v1, aI v2]) (stk := [aA x1]) (o1 := (some (aI x2), h)) mk_X0_slotOf ss_X0_lengthOf_91 dX0_lengthOf_6 rfl rfl (Nat.le_of_ble_eq_true rfl) (Nat.le_of_ble_eq_true rfl) (ok_X0_slotOf ex2) (show Go M_X0_lengthOf (some (aI r), h) 9 [some (aA v0), some (aI v1), some (aI v2)] [aI x2, aA x1] h from ?_)
  obtain ⟨x3, ex3, H⟩ := bind_some H
  refine go_callS (vs := [aA x1, aI x2]) (stk := []) (o1 := (some (aI x3), h)) mk_X5_at ss_X0_lengthOf_87 dX0_lengthOf_9 rfl rfl (Nat.le_of_ble_eq_true rfl) (Nat.le_of_ble_eq_true rfl) (ok_X5_at ex3) (show Go M_X0_lengthOf (some (aI r), h) 12 [some (aA v0), some (aI v1), some (aI v2)] [aI x3] h from ?_)
  obtain rfl := Option.some.inj H
  exact go_ireturn dX0_lengthOf_12 (tyI_int rfl)
/-! X0_latestLength -/
def j_X0_latestLength_24  (s0 : Int32) (h : Hp) : Option Int32 :=
  some s0
set_option maxRecDepth 20000 in
theorem okj_X0_latestLength_24 {r : Int32}  (s0 : Int32) (h : Hp) (H : j_X0_latestLength_24 s0 h = some r) : Go M_X0_latestLength (some (aI r), h) 24 [none, none] [aI s0] h := by
  unfold j_X0_latestLength_24 at H
  obtain rfl := Option.some.inj H
  exact go_ireturn dX0_latestLength_24 (tyI_int rfl)
def m_X0_latestLength (v0 : Nat) (v1 : Int32) (h : Hp) : Option Int32 :=
  (rc h v0 1 (m_X0_hasDocument v0 v1 h)).bind fun x1 => if x1 = 0 then j_X0_latestLength_24 (0 : Int32) h else (rc h v0 1 (m_X0_versionsOf v0 v1 h)).bind fun x2 => (rc h v0 1 (m_X0_lengthOf v0 v1 (x2 - (1 : Int32)) h)).bind fun x3 => j_X0_latestLength_24 x3 h
set_option maxRecDepth 20000 in
theorem ok_X0_latestLength {r : Int32} {v0 : Nat} {v1 : Int32} {h : Hp} (H : m_X0_latestLength v0 v1 h = some r) : Ev M_X0_latestLength [aA v0, aI v1] h (some (aI r), h) := by
  show Go M_X0_latestLength (some (aI r), h) 0 [some (aA v0), some (aI v1)] [] h
  unfold m_X0_latestLength at H
  refine go_aloadn dX0_latestLength_0 rfl ?_
  refine go_iloadn dX0_latestLength_1 rfl ?_
  obtain ⟨c1, x1, ex1, H⟩ := gm_rc H
  refine go_callV (vs := [aI v1]) (stk := []) (o1 := (some (aI x1), h)) mk_X0_hasDocument sv_X0_latestLength_72 cl_X0 rfl dX0_latestLength_2 c1 rfl rfl (Nat.le_of_ble_eq_true rfl) (Nat.le_of_ble_eq_true rfl) (ok_X0_hasDocument ex1) (show Go M_X0_latestLength (some (aI r), h) 5 [some (aA v0), some (aI v1)] [aI x1] h from ?_)
  refine go_if_eq (tgt := 23) dX0_latestLength_5 (by decide) (fun c2 => ?_) (fun c2 => ?_)
  · replace H := (gm_ite H).1 c2
    refine go_iconst (v := (0 : Int32)) dX0_latestLength_23 rfl ?_
    refine go_mask [false, false] (loc' := [none, none]) rfl ?_
    exact okj_X0_latestLength_24 (0 : Int32) h  H
  · replace H := (gm_ite H).2 c2
    refine go_aloadn dX0_latestLength_8 rfl ?_
    refine go_iloadn dX0_latestLength_9 rfl ?_
    refine go_aloadn dX0_latestLength_10 rfl ?_
    refine go_iloadn dX0_latestLength_11 rfl ?_
    obtain ⟨c3, x2, ex2, H⟩ := gm_rc H
    refine go_callV (vs := [aI v1]) (stk := [aI v1, aA v0]) (o1 := (some (aI x2), h)) mk_X0_versionsOf sv_X0_latestLength_76 cl_X0 rfl dX0_latestLength_12 c3 rfl rfl (Nat.le_of_ble_eq_true rfl) (Nat.le_of_ble_eq_true rfl) (ok_X0_versionsOf ex2) (show Go M_X0_latestLength (some (aI r), h) 15 [some (aA v0), some (aI v1)] [aI x2, aI v1, aA v0] h from ?_)
    refine go_iconst (v := (1 : Int32)) dX0_latestLength_15 rfl ?_
    refine go_isub dX0_latestLength_16 ?_
    obtain ⟨c4, x3, ex3, H⟩ := gm_rc H
    refine go_callV (vs := [aI v1, aI (x2 - (1 : Int32))]) (stk := []) (o1 := (some (aI x3), h)) mk_X0_lengthOf sv_X0_latestLength_84 cl_X0 rfl dX0_latestLength_17 c4 rfl rfl (Nat.le_of_ble_eq_true rfl) (Nat.le_of_ble_eq_true rfl) (ok_X0_lengthOf ex3) (show Go M_X0_latestLength (some (aI r), h) 20 [some (aA v0), some (aI v1)] [aI x3] h from ?_)
    refine go_goto (tgt := 24) dX0_latestLength_20 (by decide) ?_
    refine go_mask [false, false] (loc' := [none, none]) rfl ?_
    exact okj_X0_latestLength_24 x3 h  H
/-! X0_hasVersion -/
def j_X0_hasVersion_26  (s0 : Int32) (h : Hp) : Option Int32 :=
  (zb s0).bind fun x1 => some x1
set_option maxRecDepth 20000 in
theorem okj_X0_hasVersion_26 {r : Int32}  (s0 : Int32) (h : Hp) (H : j_X0_hasVersion_26 s0 h = some r) : Go M_X0_hasVersion (some (aI r), h) 26 [none, none, none] [aI s0] h := by
  unfold j_X0_hasVersion_26 at H
  obtain ⟨hz, H⟩ := gm_zb H
  obtain rfl := Option.some.inj H
  exact go_ireturn (x := s0) dX0_hasVersion_26 (tyI_bool rfl hz)
def m_X0_hasVersion (v0 : Nat) (v1 : Int32) (v2 : Int32) (h : Hp) : Option Int32 :=
  (rc h v0 1 (m_X0_hasDocument v0 v1 h)).bind fun x1 => if x1 = 0 then j_X0_hasVersion_26 (0 : Int32) h else if v2 < 0 then j_X0_hasVersion_26 (0 : Int32) h else (rc h v0 1 (m_X0_versionsOf v0 v1 h)).bind fun x2 => j_X0_hasVersion_26 (if x2 ≤ v2 then (0 : Int32) else (1 : Int32)) h
set_option maxRecDepth 20000 in
theorem ok_X0_hasVersion {r : Int32} {v0 : Nat} {v1 : Int32} {v2 : Int32} {h : Hp} (H : m_X0_hasVersion v0 v1 v2 h = some r) : Ev M_X0_hasVersion [aA v0, aI v1, aI v2] h (some (aI r), h) := by
  show Go M_X0_hasVersion (some (aI r), h) 0 [some (aA v0), some (aI v1), some (aI v2)] [] h
  unfold m_X0_hasVersion at H
  refine go_aloadn dX0_hasVersion_0 rfl ?_
  refine go_iloadn dX0_hasVersion_1 rfl ?_
  obtain ⟨c1, x1, ex1, H⟩ := gm_rc H
  refine go_callV (vs := [aI v1]) (stk := []) (o1 := (some (aI x1), h)) mk_X0_hasDocument sv_X0_hasVersion_72 cl_X0 rfl dX0_hasVersion_2 c1 rfl rfl (Nat.le_of_ble_eq_true rfl) (Nat.le_of_ble_eq_true rfl) (ok_X0_hasDocument ex1) (show Go M_X0_hasVersion (some (aI r), h) 5 [some (aA v0), some (aI v1), some (aI v2)] [aI x1] h from ?_)
  refine go_if_eq (tgt := 25) dX0_hasVersion_5 (by decide) (fun c2 => ?_) (fun c2 => ?_)
  · replace H := (gm_ite H).1 c2
    refine go_iconst (v := (0 : Int32)) dX0_hasVersion_25 rfl ?_
    refine go_mask [false, false, false] (loc' := [none, none, none]) rfl ?_
    exact okj_X0_hasVersion_26 (0 : Int32) h  H
  · replace H := (gm_ite H).2 c2
    refine go_iloadn dX0_hasVersion_8 rfl ?_
    refine go_if_lt (tgt := 25) dX0_hasVersion_9 (by decide) (fun c3 => ?_) (fun c3 => ?_)
    · replace H := (gm_ite H).1 c3
      refine go_iconst (v := (0 : Int32)) dX0_hasVersion_25 rfl ?_
      refine go_mask [false, false, false] (loc' := [none, none, none]) rfl ?_
      exact okj_X0_hasVersion_26 (0 : Int32) h  H
    · replace H := (gm_ite H).2 c3
      refine go_iloadn dX0_hasVersion_12 rfl ?_
      refine go_aloadn dX0_hasVersion_13 rfl ?_
      refine go_iloadn dX0_hasVersion_14 rfl ?_
      obtain ⟨c4, x2, ex2, H⟩ := gm_rc H
      refine go_callV (vs := [aI v1]) (stk := [aI v2]) (o1 := (some (aI x2), h)) mk_X0_versionsOf sv_X0_hasVersion_76 cl_X0 rfl dX0_hasVersion_15 c4 rfl rfl (Nat.le_of_ble_eq_true rfl) (Nat.le_of_ble_eq_true rfl) (ok_X0_versionsOf ex2) (show Go M_X0_hasVersion (some (aI r), h) 18 [some (aA v0), some (aI v1), some (aI v2)] [aI x2, aI v2] h from ?_)
      refine go_icmp_ge (tgt := 25) dX0_hasVersion_18 (by decide) (fun c5 => ?_) (fun c5 => ?_)
      · rw [if_pos c5] at H
        refine go_iconst (v := (0 : Int32)) dX0_hasVersion_25 rfl ?_
        refine go_mask [false, false, false] (loc' := [none, none, none]) rfl ?_
        exact okj_X0_hasVersion_26 (0 : Int32) h  H
      · rw [if_neg c5] at H
        refine go_iconst (v := (1 : Int32)) dX0_hasVersion_21 rfl ?_
        refine go_goto (tgt := 26) dX0_hasVersion_22 (by decide) ?_
        refine go_mask [false, false, false] (loc' := [none, none, none]) rfl ?_
        exact okj_X0_hasVersion_26 (1 : Int32) h  H
/-! X7_isThere -/
def j_X7_isThere_49  (s0 : Int32) (h : Hp) : Option Int32 :=
  (zb s0).bind fun x1 => some x1
set_option maxRecDepth 20000 in
theorem okj_X7_isThere_49 {r : Int32}  (s0 : Int32) (h : Hp) (H : j_X7_isThere_49 s0 h = some r) : Go M_X7_isThere (some (aI r), h) 49 [none, none, none] [aI s0] h := by
  unfold j_X7_isThere_49 at H
  obtain ⟨hz, H⟩ := gm_zb H
  obtain rfl := Option.some.inj H
  exact go_ireturn (x := s0) dX7_isThere_49 (tyI_bool rfl hz)
def j_X7_isThere_76  (s0 : Int32) (h : Hp) : Option Int32 :=
  (zb s0).bind fun x1 => some x1
set_option maxRecDepth 20000 in
theorem okj_X7_isThere_76 {r : Int32}  (s0 : Int32) (h : Hp) (H : j_X7_isThere_76 s0 h = some r) : Go M_X7_isThere (some (aI r), h) 76 [none, none, none] [aI s0] h := by
  unfold j_X7_isThere_76 at H
  obtain ⟨hz, H⟩ := gm_zb H
  obtain rfl := Option.some.inj H
  exact go_ireturn (x := s0) dX7_isThere_76 (tyI_bool rfl hz)
def j_X7_isThere_106  (s0 : Int32) (h : Hp) : Option Int32 :=
  (zb s0).bind fun x1 => some x1
set_option maxRecDepth 20000 in
theorem okj_X7_isThere_106 {r : Int32}  (s0 : Int32) (h : Hp) (H : j_X7_isThere_106 s0 h = some r) : Go M_X7_isThere (some (aI r), h) 106 [none, none, none] [aI s0] h := by
  unfold j_X7_isThere_106 at H
  obtain ⟨hz, H⟩ := gm_zb H
  obtain rfl := Option.some.inj H
  exact go_ireturn (x := s0) dX7_isThere_106 (tyI_bool rfl hz)
def m_X7_isThere (v0 : Nat) (v1 : Int32) (v2 : Int32) (h : Hp) : Option Int32 :=
  (gfR h v0 7 0).bind fun x1 => (gfI h x1 5 0).bind fun x2 => if x2 = (9 : Int32) then ((gfR h v0 7 0).bind fun x3 => (rc h x3 5 (m_X4_value x3 (1 : Int32) h)).bind fun x4 => j_X7_isThere_49 (if v2 < x4 then (0 : Int32) else (1 : Int32)) h) else if x2 = (10 : Int32) then ((gfR h v0 7 0).bind fun x5 => (rc h x5 5 (m_X4_value x5 (1 : Int32) h)).bind fun x6 => (gfR h v0 7 0).bind fun x7 => (rc h x7 5 (m_X4_value x7 (2 : Int32) h)).bind fun x8 => j_X7_isThere_76 (if v2 < (x6 + x8) then (0 : Int32) else (1 : Int32)) h) else if x2 = (11 : Int32) then ((gfR h v0 7 0).bind fun x9 => (rc h x9 5 (m_X4_value x9 (1 : Int32) h)).bind fun x10 => if v2 ≤ x10 then j_X7_isThere_106 (0 : Int32) h else (gfR h v0 7 0).bind fun x11 => (rc h x11 5 (m_X4_value x11 (2 : Int32) h)).bind fun x12 => j_X7_isThere_106 (if v2 ≤ x12 then (0 : Int32) else (1 : Int32)) h) else (gfR h v0 7 1).bind fun x13 => (gfR h v0 7 0).bind fun x14 => (rc h x14 5 (m_X4_value x14 (1 : Int32) h)).bind fun x15 => (rc h x13 1 (m_X0_hasVersion x13 v1 x15 h)).bind fun x16 => (zb x16).bind fun x17 => some x17
set_option maxRecDepth 20000 in
theorem ok_X7_isThere {r : Int32} {v0 : Nat} {v1 : Int32} {v2 : Int32} {h : Hp} (H : m_X7_isThere v0 v1 v2 h = some r) : Ev M_X7_isThere [aA v0, aI v1, aI v2] h (some (aI r), h) := by
  show Go M_X7_isThere (some (aI r), h) 0 [some (aA v0), some (aI v1), some (aI v2)] [] h
  unfold m_X7_isThere at H
  refine go_aloadn dX7_isThere_0 rfl ?_
  refine gm_getR fd_X7_12 dX7_isThere_1 H (fun x1 H => ?_)
  refine gm_getI fd_X7_117 dX7_isThere_4 H (fun x2 H => ?_)
  by_cases c1 : x2 = (9 : Int32)
  · replace H := (gm_ite H).1 c1
    refine go_eqI c1 ?_
    refine go_tableIn (tgt := 32) dX7_isThere_7 (by decide) (by decide) rfl (by decide) ?_
    refine go_aloadn dX7_isThere_32 rfl ?_
    refine gm_getR fd_X7_12 dX7_isThere_33 H (fun x3 H => ?_)
    refine go_iconst (v := (1 : Int32)) dX7_isThere_36 rfl ?_
    obtain ⟨c2, x4, ex4, H⟩ := gm_rc H
    refine go_callV (vs := [aI (1 : Int32)]) (stk := []) (o1 := (some (aI x4), h)) mk_X4_value sv_X7_isThere_94 cl_X4 rfl dX7_isThere_37 c2 rfl rfl (Nat.le_of_ble_eq_true rfl) (Nat.le_of_ble_eq_true rfl) (ok_X4_value ex4) (show Go M_X7_isThere (some (aI r), h) 40 [some (aA v0), some (aI v1), some (aI v2)] [aI x4] h from ?_)
    refine go_iloadn dX7_isThere_40 rfl ?_
    refine go_icmp_gt (tgt := 48) dX7_isThere_41 (by decide) (fun c3 => ?_) (fun c3 => ?_)
    · rw [if_pos c3] at H
      refine go_iconst (v := (0 : Int32)) dX7_isThere_48 rfl ?_
      refine go_mask [false, false, false] (loc' := [none, none, none]) rfl ?_
      exact okj_X7_isThere_49 (0 : Int32) h  H
    · rw [if_neg c3] at H
      refine go_iconst (v := (1 : Int32)) dX7_isThere_44 rfl ?_
      refine go_goto (tgt := 49) dX7_isThere_45 (by decide) ?_
      refine go_mask [false, false, false] (loc' := [none, none, none]) rfl ?_
      exact okj_X7_isThere_49 (1 : Int32) h  H
  · replace H := (gm_ite H).2 c1
    by_cases c4 : x2 = (10 : Int32)
    · replace H := (gm_ite H).1 c4
      refine go_eqI c4 ?_
      refine go_tableIn (tgt := 50) dX7_isThere_7 (by decide) (by decide) rfl (by decide) ?_
      refine go_aloadn dX7_isThere_50 rfl ?_
      refine gm_getR fd_X7_12 dX7_isThere_51 H (fun x5 H => ?_)
      refine go_iconst (v := (1 : Int32)) dX7_isThere_54 rfl ?_
      obtain ⟨c5, x6, ex6, H⟩ := gm_rc H
      refine go_callV (vs := [aI (1 : Int32)]) (stk := []) (o1 := (some (aI x6), h)) mk_X4_value sv_X7_isThere_94 cl_X4 rfl dX7_isThere_55 c5 rfl rfl (Nat.le_of_ble_eq_true rfl) (Nat.le_of_ble_eq_true rfl) (ok_X4_value ex6) (show Go M_X7_isThere (some (aI r), h) 58 [some (aA v0), some (aI v1), some (aI v2)] [aI x6] h from ?_)
      refine go_aloadn dX7_isThere_58 rfl ?_
      refine gm_getR fd_X7_12 dX7_isThere_59 H (fun x7 H => ?_)
      refine go_iconst (v := (2 : Int32)) dX7_isThere_62 rfl ?_
      obtain ⟨c6, x8, ex8, H⟩ := gm_rc H
      refine go_callV (vs := [aI (2 : Int32)]) (stk := [aI x6]) (o1 := (some (aI x8), h)) mk_X4_value sv_X7_isThere_94 cl_X4 rfl dX7_isThere_63 c6 rfl rfl (Nat.le_of_ble_eq_true rfl) (Nat.le_of_ble_eq_true rfl) (ok_X4_value ex8) (show Go M_X7_isThere (some (aI r), h) 66 [some (aA v0), some (aI v1), some (aI v2)] [aI x8, aI x6] h from ?_)
      refine go_iadd dX7_isThere_66 ?_
      refine go_iloadn dX7_isThere_67 rfl ?_
      refine go_icmp_gt (tgt := 75) dX7_isThere_68 (by decide) (fun c7 => ?_) (fun c7 => ?_)
      · rw [if_pos c7] at H
        refine go_iconst (v := (0 : Int32)) dX7_isThere_75 rfl ?_
        refine go_mask [false, false, false] (loc' := [none, none, none]) rfl ?_
        exact okj_X7_isThere_76 (0 : Int32) h  H
      · rw [if_neg c7] at H
        refine go_iconst (v := (1 : Int32)) dX7_isThere_71 rfl ?_
        refine go_goto (tgt := 76) dX7_isThere_72 (by decide) ?_
        refine go_mask [false, false, false] (loc' := [none, none, none]) rfl ?_
        exact okj_X7_isThere_76 (1 : Int32) h  H
    · replace H := (gm_ite H).2 c4
      by_cases c8 : x2 = (11 : Int32)
      · replace H := (gm_ite H).1 c8
        refine go_eqI c8 ?_
        refine go_tableIn (tgt := 77) dX7_isThere_7 (by decide) (by decide) rfl (by decide) ?_
        refine go_aloadn dX7_isThere_77 rfl ?_
        refine gm_getR fd_X7_12 dX7_isThere_78 H (fun x9 H => ?_)
        refine go_iconst (v := (1 : Int32)) dX7_isThere_81 rfl ?_
        obtain ⟨c9, x10, ex10, H⟩ := gm_rc H
        refine go_callV (vs := [aI (1 : Int32)]) (stk := []) (o1 := (some (aI x10), h)) mk_X4_value sv_X7_isThere_94 cl_X4 rfl dX7_isThere_82 c9 rfl rfl (Nat.le_of_ble_eq_true rfl) (Nat.le_of_ble_eq_true rfl) (ok_X4_value ex10) (show Go M_X7_isThere (some (aI r), h) 85 [some (aA v0), some (aI v1), some (aI v2)] [aI x10] h from ?_)
        refine go_iloadn dX7_isThere_85 rfl ?_
        refine go_icmp_ge (tgt := 105) dX7_isThere_86 (by decide) (fun c10 => ?_) (fun c10 => ?_)
        · replace H := (gm_ite H).1 c10
          refine go_iconst (v := (0 : Int32)) dX7_isThere_105 rfl ?_
          refine go_mask [false, false, false] (loc' := [none, none, none]) rfl ?_
          exact okj_X7_isThere_106 (0 : Int32) h  H
        · replace H := (gm_ite H).2 c10
          refine go_aloadn dX7_isThere_89 rfl ?_
          refine gm_getR fd_X7_12 dX7_isThere_90 H (fun x11 H => ?_)
          refine go_iconst (v := (2 : Int32)) dX7_isThere_93 rfl ?_
          obtain ⟨c11, x12, ex12, H⟩ := gm_rc H
          refine go_callV (vs := [aI (2 : Int32)]) (stk := []) (o1 := (some (aI x12), h)) mk_X4_value sv_X7_isThere_94 cl_X4 rfl dX7_isThere_94 c11 rfl rfl (Nat.le_of_ble_eq_true rfl) (Nat.le_of_ble_eq_true rfl) (ok_X4_value ex12) (show Go M_X7_isThere (some (aI r), h) 97 [some (aA v0), some (aI v1), some (aI v2)] [aI x12] h from ?_)
          refine go_iloadn dX7_isThere_97 rfl ?_
          refine go_icmp_ge (tgt := 105) dX7_isThere_98 (by decide) (fun c12 => ?_) (fun c12 => ?_)
          · rw [if_pos c12] at H
            refine go_iconst (v := (0 : Int32)) dX7_isThere_105 rfl ?_
            refine go_mask [false, false, false] (loc' := [none, none, none]) rfl ?_
            exact okj_X7_isThere_106 (0 : Int32) h  H
          · rw [if_neg c12] at H
            refine go_iconst (v := (1 : Int32)) dX7_isThere_101 rfl ?_
            refine go_goto (tgt := 106) dX7_isThere_102 (by decide) ?_
            refine go_mask [false, false, false] (loc' := [none, none, none]) rfl ?_
            exact okj_X7_isThere_106 (1 : Int32) h  H
      · replace H := (gm_ite H).2 c8
        refine go_tableOut (tgt := 107) dX7_isThere_7 (sw_out (fun i h1 h2 e => ?_)) (by decide) ?_
        · have h3 : i = 9 ∨ i = 10 ∨ i = 11 := by omega
          rcases h3 with rfl | rfl | rfl
          · exact sw_ne c1 (by decide) e
          · exact sw_ne c4 (by decide) e
          · exact sw_ne c8 (by decide) e
        · skip
          refine go_aloadn dX7_isThere_107 rfl ?_
          refine gm_getR fd_X7_21 dX7_isThere_108 H (fun x13 H => ?_)
          refine go_iloadn dX7_isThere_111 rfl ?_
          refine go_aloadn dX7_isThere_112 rfl ?_
          refine gm_getR fd_X7_12 dX7_isThere_113 H (fun x14 H => ?_)
          refine go_iconst (v := (1 : Int32)) dX7_isThere_116 rfl ?_
          obtain ⟨c13, x15, ex15, H⟩ := gm_rc H
          refine go_callV (vs := [aI (1 : Int32)]) (stk := [aI v1, aA x13]) (o1 := (some (aI x15), h)) mk_X4_value sv_X7_isThere_94 cl_X4 rfl dX7_isThere_117 c13 rfl rfl (Nat.le_of_ble_eq_true rfl) (Nat.le_of_ble_eq_true rfl) (ok_X4_value ex15) (show Go M_X7_isThere (some (aI r), h) 120 [some (aA v0), some (aI v1), some (aI v2)] [aI x15, aI v1, aA x13] h from ?_)
          obtain ⟨c14, x16, ex16, H⟩ := gm_rc H
          refine go_callV (vs := [aI v1, aI x15]) (stk := []) (o1 := (some (aI x16), h)) mk_X0_hasVersion sv_X7_isThere_155 cl_X0 rfl dX7_isThere_120 c14 rfl rfl (Nat.le_of_ble_eq_true rfl) (Nat.le_of_ble_eq_true rfl) (ok_X0_hasVersion ex16) (show Go M_X7_isThere (some (aI r), h) 123 [some (aA v0), some (aI v1), some (aI v2)] [aI x16] h from ?_)
          obtain ⟨hz, H⟩ := gm_zb H
          obtain rfl := Option.some.inj H
          exact go_ireturn (x := x16) dX7_isThere_123 (tyI_bool rfl hz)
