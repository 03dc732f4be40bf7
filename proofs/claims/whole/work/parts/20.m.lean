/-! X12_changes -/
def j_X12_changes_42 (v0 : Nat) (v1 : Int32) (v2 : Int32) (v3 : Int32) (v5 : Int32) (v6 : Int32)  (h : Hp) (K52 : Int32 → Option Int32) (k : Int32 → Int32 → Int32 → Option Int32) : Option Int32 :=
  k v3 v6 (v5 + (1 : Int32))
set_option maxRecDepth 20000 in
theorem okj_X12_changes_42 {r : Int32} (v0 : Nat) (v1 : Int32) (v2 : Int32) (v3 : Int32) (v5 : Int32) (v6 : Int32)  (h : Hp) (K52 : Int32 → Option Int32) (k : Int32 → Int32 → Int32 → Option Int32) (HK52 : ∀ (v3q : Int32) , K52 v3q = some r → Go M_X12_changes (some (aI r), h) 52 [none, none, some (aI v2), some (aI v3q), none, none, none] [] h) (Hk : ∀ (v3q : Int32) (v4q : Int32) (v5q : Int32), k v3q v4q v5q = some r → Go M_X12_changes (some (aI r), h) 8 [some (aA v0), some (aI v1), some (aI v2), some (aI v3q), some (aI v4q), some (aI v5q), none] [] h) (H : j_X12_changes_42 v0 v1 v2 v3 v5 v6 h K52 k = some r) : Go M_X12_changes (some (aI r), h) 42 [some (aA v0), some (aI v1), some (aI v2), some (aI v3), none, some (aI v5), some (aI v6)] [] h := by
  unfold j_X12_changes_42 at H
  refine go_iload dX12_changes_42 rfl ?_
  refine go_istore (loc2 := [some (aA v0), some (aI v1), some (aI v2), some (aI v3), some (aI v6), some (aI v5), some (aI v6)]) dX12_changes_44 (by decide) rfl ?_
  refine go_iinc (v := (v5 + (1 : Int32))) (loc2 := [some (aA v0), some (aI v1), some (aI v2), some (aI v3), some (aI v6), some (aI (v5 + (1 : Int32))), some (aI v6)]) dX12_changes_46 rfl rfl (by decide) rfl ?_
  refine go_goto (tgt := 8) dX12_changes_49 (by decide) ?_
  refine go_mask [true, true, true, true, true, true, false] (loc' := [some (aA v0), some (aI v1), some (aI v2), some (aI v3), some (aI v6), some (aI (v5 + (1 : Int32))), none]) rfl ?_
  exact Hk v3 v6 (v5 + (1 : Int32)) H
def b_X12_changes_8 (v0 : Nat) (v1 : Int32) (v2 : Int32) (h : Hp) (K52 : Int32 → Option Int32) (k : Int32 → Int32 → Int32 → Option Int32) (v3 : Int32) (v4 : Int32) (v5 : Int32) : Option Int32 :=
  if (100 : Int32) ≤ v5 then K52 v3 else (rc h v0 12 (m_X12_asOf v0 v1 v5 h)).bind fun x1 => if x1 = v4 then j_X12_changes_42 v0 v1 v2 v3 v5 x1 h K52 k else if ¬ v3 = v2 then (j_X12_changes_42 v0 v1 v2 (v3 + (1 : Int32)) v5 x1 h K52 k) else some v5
set_option maxRecDepth 20000 in
theorem okb_X12_changes_8 {r : Int32} (v0 : Nat) (v1 : Int32) (v2 : Int32) (h : Hp) (K52 : Int32 → Option Int32) (k : Int32 → Int32 → Int32 → Option Int32) (v3 : Int32) (v4 : Int32) (v5 : Int32) (HK52 : ∀ (v3q : Int32) , K52 v3q = some r → Go M_X12_changes (some (aI r), h) 52 [none, none, some (aI v2), some (aI v3q), none, none, none] [] h) (Hk : ∀ (v3q : Int32) (v4q : Int32) (v5q : Int32), k v3q v4q v5q = some r → Go M_X12_changes (some (aI r), h) 8 [some (aA v0), some (aI v1), some (aI v2), some (aI v3q), some (aI v4q), some (aI v5q), none] [] h) (H : b_X12_changes_8 v0 v1 v2 h K52 k v3 v4 v5 = some r) : Go M_X12_changes (some (aI r), h) 8 [some (aA v0), some (aI v1), some (aI v2), some (aI v3), some (aI v4), some (aI v5), none] [] h := by
  unfold b_X12_changes_8 at H
  refine go_iload dX12_changes_8 rfl ?_
  refine go_bipush (v := (100 : Int32)) dX12_changes_10 rfl ?_
  refine go_icmp_ge (tgt := 52) dX12_changes_12 (by decide) (fun c1 => ?_) (fun c1 => ?_)
  · replace H := (gm_ite H).1 c1
    refine go_mask [false, false, true, true, false, false, false] (loc' := [none, none, some (aI v2), some (aI v3), none, none, none]) rfl ?_
    exact HK52 v3 H
  · replace H := (gm_ite H).2 c1
    refine go_aloadn dX12_changes_15 rfl ?_
    refine go_iloadn dX12_changes_16 rfl ?_
    refine go_iload dX12_changes_17 rfl ?_
    obtain ⟨c2, x1, ex1, H⟩ := gm_rc H
    refine go_callV (vs := [aI v1, aI v5]) (stk := []) (o1 := (some (aI x1), h)) mk_X12_asOf sv_X12_changes_401 cl_X12 rfl dX12_changes_19 c2 rfl rfl (Nat.le_of_ble_eq_true rfl) (Nat.le_of_ble_eq_true rfl) (ok_X12_asOf ex1) (show Go M_X12_changes (some (aI r), h) 22 [some (aA v0), some (aI v1), some (aI v2), some (aI v3), some (aI v4), some (aI v5), none] [aI x1] h from ?_)
    refine go_istore (loc2 := [some (aA v0), some (aI v1), some (aI v2), some (aI v3), some (aI v4), some (aI v5), some (aI x1)]) dX12_changes_22 (by decide) rfl ?_
    refine go_iload dX12_changes_24 rfl ?_
    refine go_iload dX12_changes_26 rfl ?_
    refine go_icmp_eq (tgt := 42) dX12_changes_28 (by decide) (fun c3 => ?_) (fun c3 => ?_)
    · replace H := (gm_ite H).1 c3
      refine go_mask [true, true, true, true, false, true, true] (loc' := [some (aA v0), some (aI v1), some (aI v2), some (aI v3), none, some (aI v5), some (aI x1)]) rfl ?_
      exact okj_X12_changes_42 v0 v1 v2 v3 v5 x1 h K52 k HK52 Hk H
    · replace H := (gm_ite H).2 c3
      refine go_iloadn dX12_changes_31 rfl ?_
      refine go_iloadn dX12_changes_32 rfl ?_
      refine go_icmp_ne (tgt := 39) dX12_changes_33 (by decide) (fun c4 => ?_) (fun c4 => ?_)
      · replace H := (gm_ite H).1 c4
        refine go_iinc (v := (v3 + (1 : Int32))) (loc2 := [some (aA v0), some (aI v1), some (aI v2), some (aI (v3 + (1 : Int32))), some (aI v4), some (aI v5), some (aI x1)]) dX12_changes_39 rfl rfl (by decide) rfl ?_
        refine go_mask [true, true, true, true, false, true, true] (loc' := [some (aA v0), some (aI v1), some (aI v2), some (aI (v3 + (1 : Int32))), none, some (aI v5), some (aI x1)]) rfl ?_
        exact okj_X12_changes_42 v0 v1 v2 (v3 + (1 : Int32)) v5 x1 h K52 k HK52 Hk H
      · replace H := (gm_ite H).2 c4
        refine go_iload dX12_changes_36 rfl ?_
        obtain rfl := Option.some.inj H
        exact go_ireturn dX12_changes_38 (tyI_int rfl)
def l_X12_changes_8 (v0 : Nat) (v1 : Int32) (v2 : Int32) (h : Hp) (K52 : Int32 → Option Int32) (v3 : Int32) (v4 : Int32) (v5 : Int32) : Option Int32 := loopK FUEL (fun (k : Int32 × Int32 × Int32 → Option Int32) (s : Int32 × Int32 × Int32) => b_X12_changes_8 v0 v1 v2 h K52 (fun v3q v4q v5q => k (v3q, v4q, v5q)) s.1 s.2.1 s.2.2) (v3, v4, v5)
theorem okl_X12_changes_8 {r : Int32} (v0 : Nat) (v1 : Int32) (v2 : Int32) (h : Hp) (K52 : Int32 → Option Int32) (v3 : Int32) (v4 : Int32) (v5 : Int32) (HK52 : ∀ (v3q : Int32) , K52 v3q = some r → Go M_X12_changes (some (aI r), h) 52 [none, none, some (aI v2), some (aI v3q), none, none, none] [] h) (H : l_X12_changes_8 v0 v1 v2 h K52 v3 v4 v5 = some r) : Go M_X12_changes (some (aI r), h) 8 [some (aA v0), some (aI v1), some (aI v2), some (aI v3), some (aI v4), some (aI v5), none] [] h := by
  unfold l_X12_changes_8 at H
  exact go_loop (σ := Int32 × Int32 × Int32) (body := (fun (k : Int32 × Int32 × Int32 → Option Int32) (s : Int32 × Int32 × Int32) => b_X12_changes_8 v0 v1 v2 h K52 (fun v3q v4q v5q => k (v3q, v4q, v5q)) s.1 s.2.1 s.2.2)) (fun s => [some (aA v0), some (aI v1), some (aI v2), some (aI s.1), some (aI s.2.1), some (aI s.2.2), none]) (fun s => h) (fun k s Hk H => okb_X12_changes_8 v0 v1 v2 h K52 (fun v3q v4q v5q => k (v3q, v4q, v5q)) s.1 s.2.1 s.2.2 HK52 (fun v3q v4q v5q H => Hk (v3q, v4q, v5q) H) H) FUEL (v3, v4, v5) H
def j_X12_changes_62  (s0 : Int32) (h : Hp) : Option Int32 :=
  some s0
set_option maxRecDepth 20000 in
theorem okj_X12_changes_62 {r : Int32}  (s0 : Int32) (h : Hp) (H : j_X12_changes_62 s0 h = some r) : Go M_X12_changes (some (aI r), h) 62 [none, none, none, none, none, none, none] [aI s0] h := by
  unfold j_X12_changes_62 at H
  obtain rfl := Option.some.inj H
  exact go_ireturn dX12_changes_62 (tyI_int rfl)
def j_X12_changes_52 (v2 : Int32) (v3 : Int32)  (h : Hp) : Option Int32 :=
  j_X12_changes_62 (if ¬ v2 = (-1 : Int32) then (-1 : Int32) else v3) h
set_option maxRecDepth 20000 in
theorem okj_X12_changes_52 {r : Int32} (v2 : Int32) (v3 : Int32)  (h : Hp) (H : j_X12_changes_52 v2 v3 h = some r) : Go M_X12_changes (some (aI r), h) 52 [none, none, some (aI v2), some (aI v3), none, none, none] [] h := by
  unfold j_X12_changes_52 at H
  refine go_iloadn dX12_changes_52 rfl ?_
  refine go_iconst (v := (-1 : Int32)) dX12_changes_53 rfl ?_
  refine go_icmp_ne (tgt := 61) dX12_changes_54 (by decide) (fun c1 => ?_) (fun c1 => ?_)
  · rw [if_pos c1] at H
    refine go_iconst (v := (-1 : Int32)) dX12_changes_61 rfl ?_
    refine go_mask [false, false, false, false, false, false, false] (loc' := [none, none, none, none, none, none, none]) rfl ?_
    exact okj_X12_changes_62 (-1 : Int32) h  H
  · rw [if_neg c1] at H
    refine go_iloadn dX12_changes_57 rfl ?_
    refine go_goto (tgt := 62) dX12_changes_58 (by decide) ?_
    refine go_mask [false, false, false, false, false, false, false] (loc' := [none, none, none, none, none, none, none]) rfl ?_
    exact okj_X12_changes_62 v3 h  H
def m_X12_changes (v0 : Nat) (v1 : Int32) (v2 : Int32) (h : Hp) : Option Int32 :=
  l_X12_changes_8 v0 v1 v2 h (fun a1_3 => j_X12_changes_52 v2 a1_3 h) (0 : Int32) (0 : Int32) (0 : Int32)
set_option maxRecDepth 20000 in
theorem ok_X12_changes {r : Int32} {v0 : Nat} {v1 : Int32} {v2 : Int32} {h : Hp} (H : m_X12_changes v0 v1 v2 h = some r) : Ev M_X12_changes [aA v0, aI v1, aI v2] h (some (aI r), h) := by
  show Go M_X12_changes (some (aI r), h) 0 [some (aA v0), some (aI v1), some (aI v2), none, none, none, none] [] h
  unfold m_X12_changes at H
  refine go_iconst (v := (0 : Int32)) dX12_changes_0 rfl ?_
  refine go_istoren (loc2 := [some (aA v0), some (aI v1), some (aI v2), some (aI (0 : Int32)), none, none, none]) dX12_changes_1 rfl (by decide) rfl ?_
  refine go_iconst (v := (0 : Int32)) dX12_changes_2 rfl ?_
  refine go_istore (loc2 := [some (aA v0), some (aI v1), some (aI v2), some (aI (0 : Int32)), some (aI (0 : Int32)), none, none]) dX12_changes_3 (by decide) rfl ?_
  refine go_iconst (v := (0 : Int32)) dX12_changes_5 rfl ?_
  refine go_istore (loc2 := [some (aA v0), some (aI v1), some (aI v2), some (aI (0 : Int32)), some (aI (0 : Int32)), some (aI (0 : Int32)), none]) dX12_changes_6 (by decide) rfl ?_
  refine okl_X12_changes_8 v0 v1 v2 h (fun a1_3 => j_X12_changes_52 v2 a1_3 h) (0 : Int32) (0 : Int32) (0 : Int32) ?_ H
  · intro a1_3 H
    exact okj_X12_changes_52 v2 a1_3 h  H
/-! X12_rankOf -/
def j_X12_rankOf_43  (s0 : Int32) (s1 : Int32) (h : Hp) : Option Int32 :=
  some (s0 + s1)
set_option maxRecDepth 20000 in
theorem okj_X12_rankOf_43 {r : Int32}  (s0 : Int32) (s1 : Int32) (h : Hp) (H : j_X12_rankOf_43 s0 s1 h = some r) : Go M_X12_rankOf (some (aI r), h) 43 [none, none, none] [aI s1, aI s0] h := by
  unfold j_X12_rankOf_43 at H
  refine go_iadd dX12_rankOf_43 ?_
  obtain rfl := Option.some.inj H
  exact go_ireturn dX12_rankOf_44 (tyI_int rfl)
def m_X12_rankOf (v0 : Nat) (v1 : Int32) (v2 : Int32) (h : Hp) : Option Int32 :=
  (gfR h v0 12 29).bind fun x1 => (alI h x1 (((4 : Int32) * v1) + v2)).bind fun x2 => (m_X12_ones x2 h).bind fun x3 => (gfR h v0 12 29).bind fun x4 => (alI h x4 (((4 : Int32) * v1) + v2)).bind fun x5 => (rc h v0 12 (m_X12_versions v0 v2 h)).bind fun x6 => (m_X12_has x5 (x6 - (1 : Int32)) h).bind fun x7 => j_X12_rankOf_43 ((2 : Int32) * x3) (if x7 = 0 then (0 : Int32) else (1 : Int32)) h
set_option maxRecDepth 20000 in
theorem ok_X12_rankOf {r : Int32} {v0 : Nat} {v1 : Int32} {v2 : Int32} {h : Hp} (H : m_X12_rankOf v0 v1 v2 h = some r) : Ev M_X12_rankOf [aA v0, aI v1, aI v2] h (some (aI r), h) := by
  show Go M_X12_rankOf (some (aI r), h) 0 [some (aA v0), some (aI v1), some (aI v2)] [] h
  unfold m_X12_rankOf at H
  refine go_iconst (v := (2 : Int32)) dX12_rankOf_0 rfl ?_
  refine go_aloadn dX12_rankOf_1 rfl ?_
  refine gm_getR fd_X12_50 dX12_rankOf_2 H (fun x1 H => ?_)
  refine go_iconst (v := (4 : Int32)) dX12_rankOf_5 rfl ?_
  refine go_iloadn dX12_rankOf_6 rfl ?_
  refine go_imul dX12_rankOf_7 ?_
  refine go_iloadn dX12_rankOf_8 rfl ?_
  refine go_iadd dX12_rankOf_9 ?_
  refine gm_iald dX12_rankOf_10 H (fun x2 H => ?_)
  obtain ⟨x3, ex3, H⟩ := bind_some H
  refine go_callS (vs := [aI x2]) (stk := [aI (2 : Int32)]) (o1 := (some (aI x3), h)) mk_X12_ones ss_X12_rankOf_300 dX12_rankOf_11 rfl rfl (Nat.le_of_ble_eq_true rfl) (Nat.le_of_ble_eq_true rfl) (ok_X12_ones ex3) (show Go M_X12_rankOf (some (aI r), h) 14 [some (aA v0), some (aI v1), some (aI v2)] [aI x3, aI (2 : Int32)] h from ?_)
  refine go_imul dX12_rankOf_14 ?_
  refine go_aloadn dX12_rankOf_15 rfl ?_
  refine gm_getR fd_X12_50 dX12_rankOf_16 H (fun x4 H => ?_)
  refine go_iconst (v := (4 : Int32)) dX12_rankOf_19 rfl ?_
  refine go_iloadn dX12_rankOf_20 rfl ?_
  refine go_imul dX12_rankOf_21 ?_
  refine go_iloadn dX12_rankOf_22 rfl ?_
  refine go_iadd dX12_rankOf_23 ?_
  refine gm_iald dX12_rankOf_24 H (fun x5 H => ?_)
  refine go_aloadn dX12_rankOf_25 rfl ?_
  refine go_iloadn dX12_rankOf_26 rfl ?_
  obtain ⟨c2, x6, ex6, H⟩ := gm_rc H
  refine go_callV (vs := [aI v2]) (stk := [aI x5, aI ((2 : Int32) * x3)]) (o1 := (some (aI x6), h)) mk_X12_versions sv_X12_rankOf_259 cl_X12 rfl dX12_rankOf_27 c2 rfl rfl (Nat.le_of_ble_eq_true rfl) (Nat.le_of_ble_eq_true rfl) (ok_X12_versions ex6) (show Go M_X12_rankOf (some (aI r), h) 30 [some (aA v0), some (aI v1), some (aI v2)] [aI x6, aI x5, aI ((2 : Int32) * x3)] h from ?_)
  refine go_iconst (v := (1 : Int32)) dX12_rankOf_30 rfl ?_
  refine go_isub dX12_rankOf_31 ?_
  obtain ⟨x7, ex7, H⟩ := bind_some H
  refine go_callS (vs := [aI x5, aI (x6 - (1 : Int32))]) (stk := [aI ((2 : Int32) * x3)]) (o1 := (some (aI x7), h)) mk_X12_has ss_X12_rankOf_64 dX12_rankOf_32 rfl rfl (Nat.le_of_ble_eq_true rfl) (Nat.le_of_ble_eq_true rfl) (ok_X12_has ex7) (show Go M_X12_rankOf (some (aI r), h) 35 [some (aA v0), some (aI v1), some (aI v2)] [aI x7, aI ((2 : Int32) * x3)] h from ?_)
  refine go_if_eq (tgt := 42) dX12_rankOf_35 (by decide) (fun c4 => ?_) (fun c4 => ?_)
  · rw [if_pos c4] at H
    refine go_iconst (v := (0 : Int32)) dX12_rankOf_42 rfl ?_
    refine go_mask [false, false, false] (loc' := [none, none, none]) rfl ?_
    exact okj_X12_rankOf_43 ((2 : Int32) * x3) (0 : Int32) h  H
  · rw [if_neg c4] at H
    refine go_iconst (v := (1 : Int32)) dX12_rankOf_38 rfl ?_
    refine go_goto (tgt := 43) dX12_rankOf_39 (by decide) ?_
    refine go_mask [false, false, false] (loc' := [none, none, none]) rfl ?_
    exact okj_X12_rankOf_43 ((2 : Int32) * x3) (1 : Int32) h  H
/-! X12_rank -/
def j_X12_rank_74 (v0 : Nat) (v1 : Int32) (v2 : Int32) (v3 : Int32) (v5 : Int32) (s0 : Int32) (s1 : Int32) (h : Hp) (K83 : Int32 → Option Int32) (k : Int32 → Int32 → Option Int32) : Option Int32 :=
  k (s0 + s1) (v5 + (1 : Int32))
set_option maxRecDepth 20000 in
theorem okj_X12_rank_74 {r : Int32} (v0 : Nat) (v1 : Int32) (v2 : Int32) (v3 : Int32) (v5 : Int32) (s0 : Int32) (s1 : Int32) (h : Hp) (K83 : Int32 → Option Int32) (k : Int32 → Int32 → Option Int32) (HK83 : ∀ (v4q : Int32) , K83 v4q = some r → Go M_X12_rank (some (aI r), h) 83 [some (aA v0), some (aI v1), some (aI v2), some (aI v3), some (aI v4q), none] [] h) (Hk : ∀ (v4q : Int32) (v5q : Int32), k v4q v5q = some r → Go M_X12_rank (some (aI r), h) 18 [some (aA v0), some (aI v1), some (aI v2), some (aI v3), some (aI v4q), some (aI v5q)] [] h) (H : j_X12_rank_74 v0 v1 v2 v3 v5 s0 s1 h K83 k = some r) : Go M_X12_rank (some (aI r), h) 74 [some (aA v0), some (aI v1), some (aI v2), some (aI v3), none, some (aI v5)] [aI s1, aI s0] h := by
  unfold j_X12_rank_74 at H
  refine go_iadd dX12_rank_74 ?_
  refine go_istore (loc2 := [some (aA v0), some (aI v1), some (aI v2), some (aI v3), some (aI (s0 + s1)), some (aI v5)]) dX12_rank_75 (by decide) rfl ?_
  refine go_iinc (v := (v5 + (1 : Int32))) (loc2 := [some (aA v0), some (aI v1), some (aI v2), some (aI v3), some (aI (s0 + s1)), some (aI (v5 + (1 : Int32)))]) dX12_rank_77 rfl rfl (by decide) rfl ?_
  refine go_goto (tgt := 18) dX12_rank_80 (by decide) ?_
  exact Hk (s0 + s1) (v5 + (1 : Int32)) H
def b_X12_rank_18 (v0 : Nat) (v1 : Int32) (v2 : Int32) (v3 : Int32) (h : Hp) (K83 : Int32 → Option Int32) (k : Int32 → Int32 → Option Int32) (v4 : Int32) (v5 : Int32) : Option Int32 :=
  (gfR h v0 12 18).bind fun x1 => (alI h x1 (0 : Int32)).bind fun x2 => if x2 ≤ v5 then K83 v4 else (rc h v0 12 (m_X12_rankOf v0 v1 v5 h)).bind fun x3 => (rc h v0 12 (m_X12_rankOf v0 v1 v3 h)).bind fun x4 => if x4 < x3 then j_X12_rank_74 v0 v1 v2 v3 v5 v4 (1 : Int32) h K83 k else (rc h v0 12 (m_X12_rankOf v0 v1 v5 h)).bind fun x5 => (rc h v0 12 (m_X12_rankOf v0 v1 v3 h)).bind fun x6 => j_X12_rank_74 v0 v1 v2 v3 v5 v4 (if ¬ x5 = x6 then (0 : Int32) else (if v3 ≤ v5 then (0 : Int32) else (1 : Int32))) h K83 k
set_option maxRecDepth 20000 in
theorem okb_X12_rank_18 {r : Int32} (v0 : Nat) (v1 : Int32) (v2 : Int32) (v3 : Int32) (h : Hp) (K83 : Int32 → Option Int32) (k : Int32 → Int32 → Option Int32) (v4 : Int32) (v5 : Int32) (HK83 : ∀ (v4q : Int32) , K83 v4q = some r → Go M_X12_rank (some (aI r), h) 83 [some (aA v0), some (aI v1), some (aI v2), some (aI v3), some (aI v4q), none] [] h) (Hk : ∀ (v4q : Int32) (v5q : Int32), k v4q v5q = some r → Go M_X12_rank (some (aI r), h) 18 [some (aA v0), some (aI v1), some (aI v2), some (aI v3), some (aI v4q), some (aI v5q)] [] h) (H : b_X12_rank_18 v0 v1 v2 v3 h K83 k v4 v5 = some r) : Go M_X12_rank (some (aI r), h) 18 [some (aA v0), some (aI v1), some (aI v2), some (aI v3), some (aI v4), some (aI v5)] [] h := by
  unfold b_X12_rank_18 at H
  refine go_iload dX12_rank_18 rfl ?_
  refine go_aloadn dX12_rank_20 rfl ?_
  refine gm_getR fd_X12_35 dX12_rank_21 H (fun x1 H => ?_)
  refine go_iconst (v := (0 : Int32)) dX12_rank_24 rfl ?_
  refine gm_iald dX12_rank_25 H (fun x2 H => ?_)
  refine go_icmp_ge (tgt := 83) dX12_rank_26 (by decide) (fun c1 => ?_) (fun c1 => ?_)
  · replace H := (gm_ite H).1 c1
    refine go_mask [true, true, true, true, true, false] (loc' := [some (aA v0), some (aI v1), some (aI v2), some (aI v3), some (aI v4), none]) rfl ?_
    exact HK83 v4 H
  · replace H := (gm_ite H).2 c1
    refine go_iload dX12_rank_29 rfl ?_
    refine go_aloadn dX12_rank_31 rfl ?_
    refine go_iloadn dX12_rank_32 rfl ?_
    refine go_iload dX12_rank_33 rfl ?_
    obtain ⟨c2, x3, ex3, H⟩ := gm_rc H
    refine go_callV (vs := [aI v1, aI v5]) (stk := [aI v4]) (o1 := (some (aI x3), h)) mk_X12_rankOf sv_X12_rank_404 cl_X12 rfl dX12_rank_35 c2 rfl rfl (Nat.le_of_ble_eq_true rfl) (Nat.le_of_ble_eq_true rfl) (ok_X12_rankOf ex3) (show Go M_X12_rank (some (aI r), h) 38 [some (aA v0), some (aI v1), some (aI v2), some (aI v3), some (aI v4), some (aI v5)] [aI x3, aI v4] h from ?_)
    refine go_aloadn dX12_rank_38 rfl ?_
    refine go_iloadn dX12_rank_39 rfl ?_
    refine go_iloadn dX12_rank_40 rfl ?_
    obtain ⟨c3, x4, ex4, H⟩ := gm_rc H
    refine go_callV (vs := [aI v1, aI v3]) (stk := [aI x3, aI v4]) (o1 := (some (aI x4), h)) mk_X12_rankOf sv_X12_rank_404 cl_X12 rfl dX12_rank_41 c3 rfl rfl (Nat.le_of_ble_eq_true rfl) (Nat.le_of_ble_eq_true rfl) (ok_X12_rankOf ex4) (show Go M_X12_rank (some (aI r), h) 44 [some (aA v0), some (aI v1), some (aI v2), some (aI v3), some (aI v4), some (aI v5)] [aI x4, aI x3, aI v4] h from ?_)
    refine go_icmp_gt (tgt := 69) dX12_rank_44 (by decide) (fun c4 => ?_) (fun c4 => ?_)
    · replace H := (gm_ite H).1 c4
      refine go_iconst (v := (1 : Int32)) dX12_rank_69 rfl ?_
      refine go_goto (tgt := 74) dX12_rank_70 (by decide) ?_
      refine go_mask [true, true, true, true, false, true] (loc' := [some (aA v0), some (aI v1), some (aI v2), some (aI v3), none, some (aI v5)]) rfl ?_
      exact okj_X12_rank_74 v0 v1 v2 v3 v5 v4 (1 : Int32) h K83 k HK83 Hk H
    · replace H := (gm_ite H).2 c4
      refine go_aloadn dX12_rank_47 rfl ?_
      refine go_iloadn dX12_rank_48 rfl ?_
      refine go_iload dX12_rank_49 rfl ?_
      obtain ⟨c5, x5, ex5, H⟩ := gm_rc H
      refine go_callV (vs := [aI v1, aI v5]) (stk := [aI v4]) (o1 := (some (aI x5), h)) mk_X12_rankOf sv_X12_rank_404 cl_X12 rfl dX12_rank_51 c5 rfl rfl (Nat.le_of_ble_eq_true rfl) (Nat.le_of_ble_eq_true rfl) (ok_X12_rankOf ex5) (show Go M_X12_rank (some (aI r), h) 54 [some (aA v0), some (aI v1), some (aI v2), some (aI v3), some (aI v4), some (aI v5)] [aI x5, aI v4] h from ?_)
      refine go_aloadn dX12_rank_54 rfl ?_
      refine go_iloadn dX12_rank_55 rfl ?_
      refine go_iloadn dX12_rank_56 rfl ?_
      obtain ⟨c6, x6, ex6, H⟩ := gm_rc H
      refine go_callV (vs := [aI v1, aI v3]) (stk := [aI x5, aI v4]) (o1 := (some (aI x6), h)) mk_X12_rankOf sv_X12_rank_404 cl_X12 rfl dX12_rank_57 c6 rfl rfl (Nat.le_of_ble_eq_true rfl) (Nat.le_of_ble_eq_true rfl) (ok_X12_rankOf ex6) (show Go M_X12_rank (some (aI r), h) 60 [some (aA v0), some (aI v1), some (aI v2), some (aI v3), some (aI v4), some (aI v5)] [aI x6, aI x5, aI v4] h from ?_)
      refine go_icmp_ne (tgt := 73) dX12_rank_60 (by decide) (fun c7 => ?_) (fun c7 => ?_)
      · rw [if_pos c7] at H
        refine go_iconst (v := (0 : Int32)) dX12_rank_73 rfl ?_
        refine go_mask [true, true, true, true, false, true] (loc' := [some (aA v0), some (aI v1), some (aI v2), some (aI v3), none, some (aI v5)]) rfl ?_
        exact okj_X12_rank_74 v0 v1 v2 v3 v5 v4 (0 : Int32) h K83 k HK83 Hk H
      · rw [if_neg c7] at H
        refine go_iload dX12_rank_63 rfl ?_
        refine go_iloadn dX12_rank_65 rfl ?_
        refine go_icmp_ge (tgt := 73) dX12_rank_66 (by decide) (fun c8 => ?_) (fun c8 => ?_)
        · rw [if_pos c8] at H
          refine go_iconst (v := (0 : Int32)) dX12_rank_73 rfl ?_
          refine go_mask [true, true, true, true, false, true] (loc' := [some (aA v0), some (aI v1), some (aI v2), some (aI v3), none, some (aI v5)]) rfl ?_
          exact okj_X12_rank_74 v0 v1 v2 v3 v5 v4 (0 : Int32) h K83 k HK83 Hk H
        · rw [if_neg c8] at H
          refine go_iconst (v := (1 : Int32)) dX12_rank_69 rfl ?_
          refine go_goto (tgt := 74) dX12_rank_70 (by decide) ?_
          refine go_mask [true, true, true, true, false, true] (loc' := [some (aA v0), some (aI v1), some (aI v2), some (aI v3), none, some (aI v5)]) rfl ?_
          exact okj_X12_rank_74 v0 v1 v2 v3 v5 v4 (1 : Int32) h K83 k HK83 Hk H
def l_X12_rank_18 (v0 : Nat) (v1 : Int32) (v2 : Int32) (v3 : Int32) (h : Hp) (K83 : Int32 → Option Int32) (v4 : Int32) (v5 : Int32) : Option Int32 := loopK FUEL (fun (k : Int32 × Int32 → Option Int32) (s : Int32 × Int32) => b_X12_rank_18 v0 v1 v2 v3 h K83 (fun v4q v5q => k (v4q, v5q)) s.1 s.2) (v4, v5)
theorem okl_X12_rank_18 {r : Int32} (v0 : Nat) (v1 : Int32) (v2 : Int32) (v3 : Int32) (h : Hp) (K83 : Int32 → Option Int32) (v4 : Int32) (v5 : Int32) (HK83 : ∀ (v4q : Int32) , K83 v4q = some r → Go M_X12_rank (some (aI r), h) 83 [some (aA v0), some (aI v1), some (aI v2), some (aI v3), some (aI v4q), none] [] h) (H : l_X12_rank_18 v0 v1 v2 v3 h K83 v4 v5 = some r) : Go M_X12_rank (some (aI r), h) 18 [some (aA v0), some (aI v1), some (aI v2), some (aI v3), some (aI v4), some (aI v5)] [] h := by
  unfold l_X12_rank_18 at H
  exact go_loop (σ := Int32 × Int32) (body := (fun (k : Int32 × Int32 → Option Int32) (s : Int32 × Int32) => b_X12_rank_18 v0 v1 v2 v3 h K83 (fun v4q v5q => k (v4q, v5q)) s.1 s.2)) (fun s => [some (aA v0), some (aI v1), some (aI v2), some (aI v3), some (aI s.1), some (aI s.2)]) (fun s => h) (fun k s Hk H => okb_X12_rank_18 v0 v1 v2 v3 h K83 (fun v4q v5q => k (v4q, v5q)) s.1 s.2 HK83 (fun v4q v5q H => Hk (v4q, v5q) H) H) FUEL (v4, v5) H
def j_X12_rank_83 (v0 : Nat) (v1 : Int32) (v2 : Int32) (v3 : Int32) (v4 : Int32)  (h : Hp) (k : Int32 → Option Int32) : Option Int32 :=
  if ¬ v4 = v2 then (k (v3 + (1 : Int32))) else some v3
set_option maxRecDepth 20000 in
theorem okj_X12_rank_83 {r : Int32} (v0 : Nat) (v1 : Int32) (v2 : Int32) (v3 : Int32) (v4 : Int32)  (h : Hp) (k : Int32 → Option Int32) (Hk : ∀ (v3q : Int32), k v3q = some r → Go M_X12_rank (some (aI r), h) 2 [some (aA v0), some (aI v1), some (aI v2), some (aI v3q), none, none] [] h) (H : j_X12_rank_83 v0 v1 v2 v3 v4 h k = some r) : Go M_X12_rank (some (aI r), h) 83 [some (aA v0), some (aI v1), some (aI v2), some (aI v3), some (aI v4), none] [] h := by
  unfold j_X12_rank_83 at H
  refine go_iload dX12_rank_83 rfl ?_
  refine go_iloadn dX12_rank_85 rfl ?_
  refine go_icmp_ne (tgt := 91) dX12_rank_86 (by decide) (fun c1 => ?_) (fun c1 => ?_)
  · replace H := (gm_ite H).1 c1
    refine go_iinc (v := (v3 + (1 : Int32))) (loc2 := [some (aA v0), some (aI v1), some (aI v2), some (aI (v3 + (1 : Int32))), some (aI v4), none]) dX12_rank_91 rfl rfl (by decide) rfl ?_
    refine go_goto (tgt := 2) dX12_rank_94 (by decide) ?_
    refine go_mask [true, true, true, true, false, false] (loc' := [some (aA v0), some (aI v1), some (aI v2), some (aI (v3 + (1 : Int32))), none, none]) rfl ?_
    exact Hk (v3 + (1 : Int32)) H
  · replace H := (gm_ite H).2 c1
    refine go_iloadn dX12_rank_89 rfl ?_
    obtain rfl := Option.some.inj H
    exact go_ireturn dX12_rank_90 (tyI_int rfl)
def b_X12_rank_2 (v0 : Nat) (v1 : Int32) (v2 : Int32) (h : Hp) (k : Int32 → Option Int32) (v3 : Int32) : Option Int32 :=
  (gfR h v0 12 18).bind fun x1 => (alI h x1 (0 : Int32)).bind fun x2 => if x2 ≤ v3 then (some (-1 : Int32)) else l_X12_rank_18 v0 v1 v2 v3 h (fun a3_4 => j_X12_rank_83 v0 v1 v2 v3 a3_4 h k) (0 : Int32) (0 : Int32)
set_option maxRecDepth 20000 in
theorem okb_X12_rank_2 {r : Int32} (v0 : Nat) (v1 : Int32) (v2 : Int32) (h : Hp) (k : Int32 → Option Int32) (v3 : Int32) (Hk : ∀ (v3q : Int32), k v3q = some r → Go M_X12_rank (some (aI r), h) 2 [some (aA v0), some (aI v1), some (aI v2), some (aI v3q), none, none] [] h) (H : b_X12_rank_2 v0 v1 v2 h k v3 = some r) : Go M_X12_rank (some (aI r), h) 2 [some (aA v0), some (aI v1), some (aI v2), some (aI v3), none, none] [] h := by
  unfold b_X12_rank_2 at H
  refine go_iloadn dX12_rank_2 rfl ?_
  refine go_aloadn dX12_rank_3 rfl ?_
  refine gm_getR fd_X12_35 dX12_rank_4 H (fun x1 H => ?_)
  refine go_iconst (v := (0 : Int32)) dX12_rank_7 rfl ?_
  refine gm_iald dX12_rank_8 H (fun x2 H => ?_)
  refine go_icmp_ge (tgt := 97) dX12_rank_9 (by decide) (fun c1 => ?_) (fun c1 => ?_)
  · replace H := (gm_ite H).1 c1
    refine go_iconst (v := (-1 : Int32)) dX12_rank_97 rfl ?_
    obtain rfl := Option.some.inj H
    exact go_ireturn dX12_rank_98 (tyI_int rfl)
  · replace H := (gm_ite H).2 c1
    refine go_iconst (v := (0 : Int32)) dX12_rank_12 rfl ?_
    refine go_istore (loc2 := [some (aA v0), some (aI v1), some (aI v2), some (aI v3), some (aI (0 : Int32)), none]) dX12_rank_13 (by decide) rfl ?_
    refine go_iconst (v := (0 : Int32)) dX12_rank_15 rfl ?_
    refine go_istore (loc2 := [some (aA v0), some (aI v1), some (aI v2), some (aI v3), some (aI (0 : Int32)), some (aI (0 : Int32))]) dX12_rank_16 (by decide) rfl ?_
    refine okl_X12_rank_18 v0 v1 v2 v3 h (fun a3_4 => j_X12_rank_83 v0 v1 v2 v3 a3_4 h k) (0 : Int32) (0 : Int32) ?_ H
    · intro a3_4 H
      exact okj_X12_rank_83 v0 v1 v2 v3 a3_4 h k Hk H
def l_X12_rank_2 (v0 : Nat) (v1 : Int32) (v2 : Int32) (h : Hp) (v3 : Int32) : Option Int32 := loopK FUEL (fun (k : Int32 → Option Int32) (s : Int32) => b_X12_rank_2 v0 v1 v2 h (fun v3q => k v3q) s) v3
theorem okl_X12_rank_2 {r : Int32} (v0 : Nat) (v1 : Int32) (v2 : Int32) (h : Hp) (v3 : Int32) (H : l_X12_rank_2 v0 v1 v2 h v3 = some r) : Go M_X12_rank (some (aI r), h) 2 [some (aA v0), some (aI v1), some (aI v2), some (aI v3), none, none] [] h := by
  unfold l_X12_rank_2 at H
  exact go_loop (σ := Int32) (body := (fun (k : Int32 → Option Int32) (s : Int32) => b_X12_rank_2 v0 v1 v2 h (fun v3q => k v3q) s)) (fun s => [some (aA v0), some (aI v1), some (aI v2), some (aI s), none, none]) (fun s => h) (fun k s Hk H => okb_X12_rank_2 v0 v1 v2 h (fun v3q => k v3q) s  (fun v3q H => Hk v3q H) H) FUEL v3 H
def m_X12_rank (v0 : Nat) (v1 : Int32) (v2 : Int32) (h : Hp) : Option Int32 :=
  l_X12_rank_2 v0 v1 v2 h (0 : Int32)
set_option maxRecDepth 20000 in
theorem ok_X12_rank {r : Int32} {v0 : Nat} {v1 : Int32} {v2 : Int32} {h : Hp} (H : m_X12_rank v0 v1 v2 h = some r) : Ev M_X12_rank [aA v0, aI v1, aI v2] h (some (aI r), h) := by
  show Go M_X12_rank (some (aI r), h) 0 [some (aA v0), some (aI v1), some (aI v2), none, none, none] [] h
  unfold m_X12_rank at H
  refine go_iconst (v := (0 : Int32)) dX12_rank_0 rfl ?_
  refine go_istoren (loc2 := [some (aA v0), some (aI v1), some (aI v2), some (aI (0 : Int32)), none, none]) dX12_rank_1 rfl (by decide) rfl ?_
  exact okl_X12_rank_2 v0 v1 v2 h (0 : Int32) H
/-! X12_docsBy -/
def j_X12_docsBy_64 (v0 : Nat) (v1 : Int32) (v2 : Int32) (v4 : Int32) (s0 : Int32) (s1 : Int32) (h : Hp) (k : Int32 → Int32 → Option Int32) : Option Int32 :=
  k (s0 ||| s1) (v4 + (1 : Int32))
set_option maxRecDepth 20000 in
theorem okj_X12_docsBy_64 {r : Int32} (v0 : Nat) (v1 : Int32) (v2 : Int32) (v4 : Int32) (s0 : Int32) (s1 : Int32) (h : Hp) (k : Int32 → Int32 → Option Int32) (Hk : ∀ (v3q : Int32) (v4q : Int32), k v3q v4q = some r → Go M_X12_docsBy (some (aI r), h) 5 [some (aA v0), some (aI v1), some (aI v2), some (aI v3q), some (aI v4q), none] [] h) (H : j_X12_docsBy_64 v0 v1 v2 v4 s0 s1 h k = some r) : Go M_X12_docsBy (some (aI r), h) 64 [some (aA v0), some (aI v1), some (aI v2), none, some (aI v4), none] [aI s1, aI s0] h := by
  unfold j_X12_docsBy_64 at H
  refine go_ior dX12_docsBy_64 ?_
  refine go_istoren (loc2 := [some (aA v0), some (aI v1), some (aI v2), some (aI (s0 ||| s1)), some (aI v4), none]) dX12_docsBy_65 rfl (by decide) rfl ?_
  refine go_iinc (v := (v4 + (1 : Int32))) (loc2 := [some (aA v0), some (aI v1), some (aI v2), some (aI (s0 ||| s1)), some (aI (v4 + (1 : Int32))), none]) dX12_docsBy_66 rfl rfl (by decide) rfl ?_
  refine go_goto (tgt := 5) dX12_docsBy_69 (by decide) ?_
  exact Hk (s0 ||| s1) (v4 + (1 : Int32)) H
def j_X12_docsBy_56 (v0 : Nat) (v1 : Int32) (v2 : Int32) (v4 : Int32) (s0 : Int32) (h : Hp) (k : Int32 → Int32 → Option Int32) : Option Int32 :=
  j_X12_docsBy_64 v0 v1 v2 v4 s0 (ishlF (1 : Int32) v4) h k
set_option maxRecDepth 20000 in
theorem okj_X12_docsBy_56 {r : Int32} (v0 : Nat) (v1 : Int32) (v2 : Int32) (v4 : Int32) (s0 : Int32) (h : Hp) (k : Int32 → Int32 → Option Int32) (Hk : ∀ (v3q : Int32) (v4q : Int32), k v3q v4q = some r → Go M_X12_docsBy (some (aI r), h) 5 [some (aA v0), some (aI v1), some (aI v2), some (aI v3q), some (aI v4q), none] [] h) (H : j_X12_docsBy_56 v0 v1 v2 v4 s0 h k = some r) : Go M_X12_docsBy (some (aI r), h) 56 [some (aA v0), some (aI v1), some (aI v2), none, some (aI v4), none] [aI s0] h := by
  unfold j_X12_docsBy_56 at H
  refine go_iconst (v := (1 : Int32)) dX12_docsBy_56 rfl ?_
  refine go_iload dX12_docsBy_57 rfl ?_
  refine go_ishl dX12_docsBy_59 ?_
  refine go_goto (tgt := 64) dX12_docsBy_60 (by decide) ?_
  exact okj_X12_docsBy_64 v0 v1 v2 v4 s0 (ishlF (1 : Int32) v4) h k Hk H
def b_X12_docsBy_5 (v0 : Nat) (v1 : Int32) (v2 : Int32) (h : Hp) (k : Int32 → Int32 → Option Int32) (v3 : Int32) (v4 : Int32) : Option Int32 :=
  (gfR h v0 12 18).bind fun x1 => (alI h x1 (0 : Int32)).bind fun x2 => if x2 ≤ v4 then (some v3) else (gfR h v0 12 29).bind fun x3 => (alI h x3 (((4 : Int32) * v1) + v4)).bind fun x4 => if v2 = 0 then (if x4 = 0 then j_X12_docsBy_64 v0 v1 v2 v4 v3 (0 : Int32) h k else j_X12_docsBy_56 v0 v1 v2 v4 v3 h k) else (m_X12_ones x4 h).bind fun x5 => (rc h v0 12 (m_X12_versions v0 v4 h)).bind fun x6 => if ¬ x5 = x6 then j_X12_docsBy_64 v0 v1 v2 v4 v3 (0 : Int32) h k else j_X12_docsBy_56 v0 v1 v2 v4 v3 h k
set_option maxRecDepth 20000 in
theorem okb_X12_docsBy_5 {r : Int32} (v0 : Nat) (v1 : Int32) (v2 : Int32) (h : Hp) (k : Int32 → Int32 → Option Int32) (v3 : Int32) (v4 : Int32) (Hk : ∀ (v3q : Int32) (v4q : Int32), k v3q v4q = some r → Go M_X12_docsBy (some (aI r), h) 5 [some (aA v0), some (aI v1), some (aI v2), some (aI v3q), some (aI v4q), none] [] h) (H : b_X12_docsBy_5 v0 v1 v2 h k v3 v4 = some r) : Go M_X12_docsBy (some (aI r), h) 5 [some (aA v0), some (aI v1), some (aI v2), some (aI v3), some (aI v4), none] [] h := by
  unfold b_X12_docsBy_5 at H
  refine go_iload dX12_docsBy_5 rfl ?_
  refine go_aloadn dX12_docsBy_7 rfl ?_
  refine gm_getR fd_X12_35 dX12_docsBy_8 H (fun x1 H => ?_)
  refine go_iconst (v := (0 : Int32)) dX12_docsBy_11 rfl ?_
  refine gm_iald dX12_docsBy_12 H (fun x2 H => ?_)
  refine go_icmp_ge (tgt := 72) dX12_docsBy_13 (by decide) (fun c1 => ?_) (fun c1 => ?_)
  · replace H := (gm_ite H).1 c1
    refine go_iloadn dX12_docsBy_72 rfl ?_
    obtain rfl := Option.some.inj H
    exact go_ireturn dX12_docsBy_73 (tyI_int rfl)
  · replace H := (gm_ite H).2 c1
    refine go_aloadn dX12_docsBy_16 rfl ?_
    refine gm_getR fd_X12_50 dX12_docsBy_17 H (fun x3 H => ?_)
    refine go_iconst (v := (4 : Int32)) dX12_docsBy_20 rfl ?_
    refine go_iloadn dX12_docsBy_21 rfl ?_
    refine go_imul dX12_docsBy_22 ?_
    refine go_iload dX12_docsBy_23 rfl ?_
    refine go_iadd dX12_docsBy_25 ?_
    refine gm_iald dX12_docsBy_26 H (fun x4 H => ?_)
    refine go_istore (loc2 := [some (aA v0), some (aI v1), some (aI v2), some (aI v3), some (aI v4), some (aI x4)]) dX12_docsBy_27 (by decide) rfl ?_
    refine go_iloadn dX12_docsBy_29 rfl ?_
    refine go_iloadn dX12_docsBy_30 rfl ?_
    refine go_if_eq (tgt := 51) dX12_docsBy_31 (by decide) (fun c2 => ?_) (fun c2 => ?_)
    · replace H := (gm_ite H).1 c2
      refine go_iload dX12_docsBy_51 rfl ?_
      refine go_if_eq (tgt := 63) dX12_docsBy_53 (by decide) (fun c3 => ?_) (fun c3 => ?_)
      · replace H := (gm_ite H).1 c3
        refine go_iconst (v := (0 : Int32)) dX12_docsBy_63 rfl ?_
        refine go_mask [true, true, true, false, true, false] (loc' := [some (aA v0), some (aI v1), some (aI v2), none, some (aI v4), none]) rfl ?_
        exact okj_X12_docsBy_64 v0 v1 v2 v4 v3 (0 : Int32) h k Hk H
      · replace H := (gm_ite H).2 c3
        refine go_mask [true, true, true, false, true, false] (loc' := [some (aA v0), some (aI v1), some (aI v2), none, some (aI v4), none]) rfl ?_
        exact okj_X12_docsBy_56 v0 v1 v2 v4 v3 h k Hk H
    · replace H := (gm_ite H).2 c2
      refine go_iload dX12_docsBy_34 rfl ?_
      obtain ⟨x5, ex5, H⟩ := bind_some H
      refine go_callS (vs := [aI x4]) (stk := [aI v3]) (o1 := (some (aI x5), h)) mk_X12_ones ss_X12_docsBy_300 dX12_docsBy_36 rfl rfl (Nat.le_of_ble_eq_true rfl) (Nat.le_of_ble_eq_true rfl) (ok_X12_ones ex5) (show Go M_X12_docsBy (some (aI r), h) 39 [some (aA v0), some (aI v1), some (aI v2), some (aI v3), some (aI v4), some (aI x4)] [aI x5, aI v3] h from ?_)
      refine go_aloadn dX12_docsBy_39 rfl ?_
      refine go_iload dX12_docsBy_40 rfl ?_
      obtain ⟨c5, x6, ex6, H⟩ := gm_rc H
      refine go_callV (vs := [aI v4]) (stk := [aI x5, aI v3]) (o1 := (some (aI x6), h)) mk_X12_versions sv_X12_docsBy_259 cl_X12 rfl dX12_docsBy_42 c5 rfl rfl (Nat.le_of_ble_eq_true rfl) (Nat.le_of_ble_eq_true rfl) (ok_X12_versions ex6) (show Go M_X12_docsBy (some (aI r), h) 45 [some (aA v0), some (aI v1), some (aI v2), some (aI v3), some (aI v4), some (aI x4)] [aI x6, aI x5, aI v3] h from ?_)
      refine go_icmp_ne (tgt := 63) dX12_docsBy_45 (by decide) (fun c6 => ?_) (fun c6 => ?_)
      · replace H := (gm_ite H).1 c6
        refine go_iconst (v := (0 : Int32)) dX12_docsBy_63 rfl ?_
        refine go_mask [true, true, true, false, true, false] (loc' := [some (aA v0), some (aI v1), some (aI v2), none, some (aI v4), none]) rfl ?_
        exact okj_X12_docsBy_64 v0 v1 v2 v4 v3 (0 : Int32) h k Hk H
      · replace H := (gm_ite H).2 c6
        refine go_goto (tgt := 56) dX12_docsBy_48 (by decide) ?_
        refine go_mask [true, true, true, false, true, false] (loc' := [some (aA v0), some (aI v1), some (aI v2), none, some (aI v4), none]) rfl ?_
        exact okj_X12_docsBy_56 v0 v1 v2 v4 v3 h k Hk H
def l_X12_docsBy_5 (v0 : Nat) (v1 : Int32) (v2 : Int32) (h : Hp) (v3 : Int32) (v4 : Int32) : Option Int32 := loopK FUEL (fun (k : Int32 × Int32 → Option Int32) (s : Int32 × Int32) => b_X12_docsBy_5 v0 v1 v2 h (fun v3q v4q => k (v3q, v4q)) s.1 s.2) (v3, v4)
theorem okl_X12_docsBy_5 {r : Int32} (v0 : Nat) (v1 : Int32) (v2 : Int32) (h : Hp) (v3 : Int32) (v4 : Int32) (H : l_X12_docsBy_5 v0 v1 v2 h v3 v4 = some r) : Go M_X12_docsBy (some (aI r), h) 5 [some (aA v0), some (aI v1), some (aI v2), some (aI v3), some (aI v4), none] [] h := by
  unfold l_X12_docsBy_5 at H
  exact go_loop (σ := Int32 × Int32) (body := (fun (k : Int32 × Int32 → Option Int32) (s : Int32 × Int32) => b_X12_docsBy_5 v0 v1 v2 h (fun v3q v4q => k (v3q, v4q)) s.1 s.2)) (fun s => [some (aA v0), some (aI v1), some (aI v2), some (aI s.1), some (aI s.2), none]) (fun s => h) (fun k s Hk H => okb_X12_docsBy_5 v0 v1 v2 h (fun v3q v4q => k (v3q, v4q)) s.1 s.2  (fun v3q v4q H => Hk (v3q, v4q) H) H) FUEL (v3, v4) H
def m_X12_docsBy (v0 : Nat) (v1 : Int32) (v2 : Int32) (h : Hp) : Option Int32 :=
  l_X12_docsBy_5 v0 v1 v2 h (0 : Int32) (0 : Int32)
set_option maxRecDepth 20000 in
theorem ok_X12_docsBy {r : Int32} {v0 : Nat} {v1 : Int32} {v2 : Int32} {h : Hp} (H : m_X12_docsBy v0 v1 v2 h = some r) : Ev M_X12_docsBy [aA v0, aI v1, aI v2] h (some (aI r), h) := by
  show Go M_X12_docsBy (some (aI r), h) 0 [some (aA v0), some (aI v1), some (aI v2), none, none, none] [] h
  unfold m_X12_docsBy at H
  refine go_iconst (v := (0 : Int32)) dX12_docsBy_0 rfl ?_
  refine go_istoren (loc2 := [some (aA v0), some (aI v1), some (aI v2), some (aI (0 : Int32)), none, none]) dX12_docsBy_1 rfl (by decide) rfl ?_
  refine go_iconst (v := (0 : Int32)) dX12_docsBy_2 rfl ?_
  refine go_istore (loc2 := [some (aA v0), some (aI v1), some (aI v2), some (aI (0 : Int32)), some (aI (0 : Int32)), none]) dX12_docsBy_3 (by decide) rfl ?_
  exact okl_X12_docsBy_5 v0 v1 v2 h (0 : Int32) (0 : Int32) H
/-! X12_versionsBy -/
def b_X12_versionsBy_4 (v0 : Nat) (v1 : Int32) (h : Hp) (k : Int32 → Int32 → Option Int32) (v2 : Int32) (v3 : Int32) : Option Int32 :=
  (gfR h v0 12 18).bind fun x1 => (alI h x1 (0 : Int32)).bind fun x2 => if x2 ≤ v3 then (some v2) else (gfR h v0 12 29).bind fun x3 => (alI h x3 (((4 : Int32) * v1) + v3)).bind fun x4 => (m_X12_ones x4 h).bind fun x5 => k (v2 + x5) (v3 + (1 : Int32))
set_option maxRecDepth 20000 in
theorem okb_X12_versionsBy_4 {r : Int32} (v0 : Nat) (v1 : Int32) (h : Hp) (k : Int32 → Int32 → Option Int32) (v2 : Int32) (v3 : Int32) (Hk : ∀ (v2q : Int32) (v3q : Int32), k v2q v3q = some r → Go M_X12_versionsBy (some (aI r), h) 4 [some (aA v0), some (aI v1), some (aI v2q), some (aI v3q)] [] h) (H : b_X12_versionsBy_4 v0 v1 h k v2 v3 = some r) : Go M_X12_versionsBy (some (aI r), h) 4 [some (aA v0), some (aI v1), some (aI v2), some (aI v3)] [] h := by
  unfold b_X12_versionsBy_4 at H
  refine go_iloadn dX12_versionsBy_4 rfl ?_
  refine go_aloadn dX12_versionsBy_5 rfl ?_
  refine gm_getR fd_X12_35 dX12_versionsBy_6 H (fun x1 H => ?_)
  refine go_iconst (v := (0 : Int32)) dX12_versionsBy_9 rfl ?_
  refine gm_iald dX12_versionsBy_10 H (fun x2 H => ?_)
  refine go_icmp_ge (tgt := 36) dX12_versionsBy_11 (by decide) (fun c1 => ?_) (fun c1 => ?_)
  · replace H := (gm_ite H).1 c1
    refine go_iloadn dX12_versionsBy_36 rfl ?_
    obtain rfl := Option.some.inj H
    exact go_ireturn dX12_versionsBy_37 (tyI_int rfl)
  · replace H := (gm_ite H).2 c1
    refine go_iloadn dX12_versionsBy_14 rfl ?_
    refine go_aloadn dX12_versionsBy_15 rfl ?_
    refine gm_getR fd_X12_50 dX12_versionsBy_16 H (fun x3 H => ?_)
    refine go_iconst (v := (4 : Int32)) dX12_versionsBy_19 rfl ?_
    refine go_iloadn dX12_versionsBy_20 rfl ?_
    refine go_imul dX12_versionsBy_21 ?_
    refine go_iloadn dX12_versionsBy_22 rfl ?_
    refine go_iadd dX12_versionsBy_23 ?_
    refine gm_iald dX12_versionsBy_24 H (fun x4 H => ?_)
    obtain ⟨x5, ex5, H⟩ := bind_some H
    refine go_callS (vs := [aI x4]) (stk := [aI v2]) (o1 := (some (aI x5), h)) mk_X12_ones ss_X12_versionsBy_300 dX12_versionsBy_25 rfl rfl (Nat.le_of_ble_eq_true rfl) (Nat.le_of_ble_eq_true rfl) (ok_X12_ones ex5) (show Go M_X12_versionsBy (some (aI r), h) 28 [some (aA v0), some (aI v1), some (aI v2), some (aI v3)] [aI x5, aI v2] h from ?_)
    refine go_iadd dX12_versionsBy_28 ?_
    refine go_istoren (loc2 := [some (aA v0), some (aI v1), some (aI (v2 + x5)), some (aI v3)]) dX12_versionsBy_29 rfl (by decide) rfl ?_
    refine go_iinc (v := (v3 + (1 : Int32))) (loc2 := [some (aA v0), some (aI v1), some (aI (v2 + x5)), some (aI (v3 + (1 : Int32)))]) dX12_versionsBy_30 rfl rfl (by decide) rfl ?_
    refine go_goto (tgt := 4) dX12_versionsBy_33 (by decide) ?_
    exact Hk (v2 + x5) (v3 + (1 : Int32)) H
def l_X12_versionsBy_4 (v0 : Nat) (v1 : Int32) (h : Hp) (v2 : Int32) (v3 : Int32) : Option Int32 := loopK FUEL (fun (k : Int32 × Int32 → Option Int32) (s : Int32 × Int32) => b_X12_versionsBy_4 v0 v1 h (fun v2q v3q => k (v2q, v3q)) s.1 s.2) (v2, v3)
theorem okl_X12_versionsBy_4 {r : Int32} (v0 : Nat) (v1 : Int32) (h : Hp) (v2 : Int32) (v3 : Int32) (H : l_X12_versionsBy_4 v0 v1 h v2 v3 = some r) : Go M_X12_versionsBy (some (aI r), h) 4 [some (aA v0), some (aI v1), some (aI v2), some (aI v3)] [] h := by
  unfold l_X12_versionsBy_4 at H
  exact go_loop (σ := Int32 × Int32) (body := (fun (k : Int32 × Int32 → Option Int32) (s : Int32 × Int32) => b_X12_versionsBy_4 v0 v1 h (fun v2q v3q => k (v2q, v3q)) s.1 s.2)) (fun s => [some (aA v0), some (aI v1), some (aI s.1), some (aI s.2)]) (fun s => h) (fun k s Hk H => okb_X12_versionsBy_4 v0 v1 h (fun v2q v3q => k (v2q, v3q)) s.1 s.2  (fun v2q v3q H => Hk (v2q, v3q) H) H) FUEL (v2, v3) H
def m_X12_versionsBy (v0 : Nat) (v1 : Int32) (h : Hp) : Option Int32 :=
  l_X12_versionsBy_4 v0 v1 h (0 : Int32) (0 : Int32)
set_option maxRecDepth 20000 in
theorem ok_X12_versionsBy {r : Int32} {v0 : Nat} {v1 : Int32} {h : Hp} (H : m_X12_versionsBy v0 v1 h = some r) : Ev M_X12_versionsBy [aA v0, aI v1] h (some (aI r), h) := by
  show Go M_X12_versionsBy (some (aI r), h) 0 [some (aA v0), some (aI v1), none, none] [] h
  unfold m_X12_versionsBy at H
  refine go_iconst (v := (0 : Int32)) dX12_versionsBy_0 rfl ?_
  refine go_istoren (loc2 := [some (aA v0), some (aI v1), some (aI (0 : Int32)), none]) dX12_versionsBy_1 rfl (by decide) rfl ?_
  refine go_iconst (v := (0 : Int32)) dX12_versionsBy_2 rfl ?_
  refine go_istoren (loc2 := [some (aA v0), some (aI v1), some (aI (0 : Int32)), some (aI (0 : Int32))]) dX12_versionsBy_3 rfl (by decide) rfl ?_
  exact okl_X12_versionsBy_4 v0 v1 h (0 : Int32) (0 : Int32) H
/-! X12_found -/
def j_X12_found_133  (s0 : Nat) (s1 : Int32) (s2 : Int32) (h : Hp) : Option (Int32 × Hp) :=
  (rc h s0 12 (m_X12_docsBy s0 s1 s2 h)).bind fun x1 => some (x1, h)
set_option maxRecDepth 20000 in
theorem okj_X12_found_133 {r : (Int32 × Hp)}  (s0 : Nat) (s1 : Int32) (s2 : Int32) (h : Hp) (H : j_X12_found_133 s0 s1 s2 h = some r) : Go M_X12_found (some (aI r.1), r.2) 133 [none, none, none, none, none] [aI s2, aI s1, aA s0] h := by
  unfold j_X12_found_133 at H
  obtain ⟨c1, x1, ex1, H⟩ := gm_rc H
  refine go_callV (vs := [aI s1, aI s2]) (stk := []) (o1 := (some (aI x1), h)) mk_X12_docsBy sv_X12_found_413 cl_X12 rfl dX12_found_133 c1 rfl rfl (Nat.le_of_ble_eq_true rfl) (Nat.le_of_ble_eq_true rfl) (ok_X12_docsBy ex1) (show Go M_X12_found (some (aI r.1), r.2) 136 [none, none, none, none, none] [aI x1] h from ?_)
  obtain rfl := Option.some.inj H
  exact go_ireturn dX12_found_136 (tyI_int rfl)
def j_X12_found_120 (v0 : Nat) (v3 : Int32) (v4 : Int32)  (h : Hp) : Option (Int32 × Hp) :=
  j_X12_found_133 v0 v3 (if ¬ v4 = (1 : Int32) then (0 : Int32) else (1 : Int32)) h
set_option maxRecDepth 20000 in
theorem okj_X12_found_120 {r : (Int32 × Hp)} (v0 : Nat) (v3 : Int32) (v4 : Int32)  (h : Hp) (H : j_X12_found_120 v0 v3 v4 h = some r) : Go M_X12_found (some (aI r.1), r.2) 120 [some (aA v0), none, none, some (aI v3), some (aI v4)] [] h := by
  unfold j_X12_found_120 at H
  refine go_aloadn dX12_found_120 rfl ?_
  refine go_iloadn dX12_found_121 rfl ?_
  refine go_iload dX12_found_122 rfl ?_
  refine go_iconst (v := (1 : Int32)) dX12_found_124 rfl ?_
  refine go_icmp_ne (tgt := 132) dX12_found_125 (by decide) (fun c1 => ?_) (fun c1 => ?_)
  · rw [if_pos c1] at H
    refine go_iconst (v := (0 : Int32)) dX12_found_132 rfl ?_
    refine go_mask [false, false, false, false, false] (loc' := [none, none, none, none, none]) rfl ?_
    exact okj_X12_found_133 v0 v3 (0 : Int32) h  H
  · rw [if_neg c1] at H
    refine go_iconst (v := (1 : Int32)) dX12_found_128 rfl ?_
    refine go_goto (tgt := 133) dX12_found_129 (by decide) ?_
    refine go_mask [false, false, false, false, false] (loc' := [none, none, none, none, none]) rfl ?_
    exact okj_X12_found_133 v0 v3 (1 : Int32) h  H
def j_X12_found_68  (s0 : Int32) (h : Hp) : Option (Int32 × Hp) :=
  some (s0, h)
set_option maxRecDepth 20000 in
theorem okj_X12_found_68 {r : (Int32 × Hp)}  (s0 : Int32) (h : Hp) (H : j_X12_found_68 s0 h = some r) : Go M_X12_found (some (aI r.1), r.2) 68 [none, none, none, none, none] [aI s0] h := by
  unfold j_X12_found_68 at H
  obtain rfl := Option.some.inj H
  exact go_ireturn dX12_found_68 (tyI_int rfl)
def m_X12_found (v0 : Nat) (v1 : Int32) (v2 : Int32) (v3 : Int32) (v4 : Int32) (h : Hp) : Option (Int32 × Hp) :=
  (pfI h v0 12 0 (0 : Int32)).bind fun hh1 => (rc hh1 v0 12 (m_X12_layHeld v0 v1 v2 hh1)).bind fun x1 => if x1.1 = 0 then (some ((-1 : Int32), x1.2)) else (rc x1.2 v0 12 (m_X12_isAsking v0 v3 x1.2)).bind fun x2 => if x2 = 0 then (some ((-1 : Int32), x1.2)) else if 0 ≤ v4 then (if v4 < (100 : Int32) then (if v4 < (10 : Int32) then (if v4 = (0 : Int32) then (j_X12_found_120 v0 v3 v4 x1.2) else if v4 = (1 : Int32) then (j_X12_found_120 v0 v3 v4 x1.2) else if v4 = (2 : Int32) then ((rc x1.2 v0 12 (m_X12_changes v0 v3 (-1 : Int32) x1.2)).bind fun x3 => some (x3, x1.2)) else if v4 = (3 : Int32) then ((rc x1.2 v0 12 (m_X12_versionsBy v0 v3 x1.2)).bind fun x4 => some (x4, x1.2)) else some ((-1 : Int32), x1.2)) else (rc x1.2 v0 12 (m_X12_rank v0 v3 (v4 - (10 : Int32)) x1.2)).bind fun x5 => some (x5, x1.2)) else if (200 : Int32) ≤ v4 then ((rc x1.2 v0 12 (m_X12_changes v0 v3 (v4 - (200 : Int32)) x1.2)).bind fun x6 => j_X12_found_68 x6 x1.2) else (rc x1.2 v0 12 (m_X12_asOf v0 v3 (v4 - (100 : Int32)) x1.2)).bind fun x7 => j_X12_found_68 x7 x1.2) else some ((-1 : Int32), x1.2)
set_option maxRecDepth 20000 in
theorem ok_X12_found {r : (Int32 × Hp)} {v0 : Nat} {v1 : Int32} {v2 : Int32} {v3 : Int32} {v4 : Int32} {h : Hp} (H : m_X12_found v0 v1 v2 v3 v4 h = some r) : Ev M_X12_found [aA v0, aI v1, aI v2, aI v3, aI v4] h (some (aI r.1), r.2) := by
  show Go M_X12_found (some (aI r.1), r.2) 0 [some (aA v0), some (aI v1), some (aI v2), some (aI v3), some (aI v4)] [] h
  unfold m_X12_found at H
  refine go_aloadn dX12_found_0 rfl ?_
  refine go_iconst (v := (0 : Int32)) dX12_found_1 rfl ?_
  refine gm_putI fd_X12_60 (Or.inl rfl) dX12_found_2 H (fun hh1 H => ?_)
  refine go_aloadn dX12_found_5 rfl ?_
  refine go_iloadn dX12_found_6 rfl ?_
  refine go_iloadn dX12_found_7 rfl ?_
  obtain ⟨c1, x1, ex1, H⟩ := gm_rc H
  refine go_callV (vs := [aI v1, aI v2]) (stk := []) (o1 := (some (aI x1.1), x1.2)) mk_X12_layHeld sv_X12_found_395 cl_X12 rfl dX12_found_8 c1 rfl rfl (Nat.le_of_ble_eq_true rfl) (Nat.le_of_ble_eq_true rfl) (ok_X12_layHeld ex1) (show Go M_X12_found (some (aI r.1), r.2) 11 [some (aA v0), some (aI v1), some (aI v2), some (aI v3), some (aI v4)] [aI x1.1] x1.2 from ?_)
  refine go_if_eq (tgt := 27) dX12_found_11 (by decide) (fun c2 => ?_) (fun c2 => ?_)
  · replace H := (gm_ite H).1 c2
    refine go_iconst (v := (-1 : Int32)) dX12_found_27 rfl ?_
    obtain rfl := Option.some.inj H
    exact go_ireturn dX12_found_28 (tyI_int rfl)
  · replace H := (gm_ite H).2 c2
    refine go_aloadn dX12_found_14 rfl ?_
    refine go_iloadn dX12_found_15 rfl ?_
    obtain ⟨c3, x2, ex2, H⟩ := gm_rc H
    refine go_callV (vs := [aI v3]) (stk := []) (o1 := (some (aI x2), x1.2)) mk_X12_isAsking sv_X12_found_398 cl_X12 rfl dX12_found_16 c3 rfl rfl (Nat.le_of_ble_eq_true rfl) (Nat.le_of_ble_eq_true rfl) (ok_X12_isAsking ex2) (show Go M_X12_found (some (aI r.1), r.2) 19 [some (aA v0), some (aI v1), some (aI v2), some (aI v3), some (aI v4)] [aI x2] x1.2 from ?_)
    refine go_if_eq (tgt := 27) dX12_found_19 (by decide) (fun c4 => ?_) (fun c4 => ?_)
    · replace H := (gm_ite H).1 c4
      refine go_iconst (v := (-1 : Int32)) dX12_found_27 rfl ?_
      obtain rfl := Option.some.inj H
      exact go_ireturn dX12_found_28 (tyI_int rfl)
    · replace H := (gm_ite H).2 c4
      refine go_iload dX12_found_22 rfl ?_
      refine go_if_ge (tgt := 29) dX12_found_24 (by decide) (fun c5 => ?_) (fun c5 => ?_)
      · replace H := (gm_ite H).1 c5
        refine go_iload dX12_found_29 rfl ?_
        refine go_bipush (v := (100 : Int32)) dX12_found_31 rfl ?_
        refine go_icmp_lt (tgt := 69) dX12_found_33 (by decide) (fun c6 => ?_) (fun c6 => ?_)
        · replace H := (gm_ite H).1 c6
          refine go_iload dX12_found_69 rfl ?_
          refine go_bipush (v := (10 : Int32)) dX12_found_71 rfl ?_
          refine go_icmp_lt (tgt := 87) dX12_found_73 (by decide) (fun c7 => ?_) (fun c7 => ?_)
          · replace H := (gm_ite H).1 c7
            refine go_iload dX12_found_87 rfl ?_
            by_cases c8 : v4 = (0 : Int32)
            · replace H := (gm_ite H).1 c8
              refine go_eqI c8 ?_
              refine go_tableIn (tgt := 120) dX12_found_89 (by decide) (by decide) rfl (by decide) ?_
              refine go_mask [true, false, false, true, true] (loc' := [some (aA v0), none, none, some (aI v3), some (aI v4)]) rfl ?_
              exact okj_X12_found_120 v0 v3 v4 x1.2  H
            · replace H := (gm_ite H).2 c8
              by_cases c9 : v4 = (1 : Int32)
              · replace H := (gm_ite H).1 c9
                refine go_eqI c9 ?_
                refine go_tableIn (tgt := 120) dX12_found_89 (by decide) (by decide) rfl (by decide) ?_
                refine go_mask [true, false, false, true, true] (loc' := [some (aA v0), none, none, some (aI v3), some (aI v4)]) rfl ?_
                exact okj_X12_found_120 v0 v3 v4 x1.2  H
              · replace H := (gm_ite H).2 c9
                by_cases c10 : v4 = (2 : Int32)
                · replace H := (gm_ite H).1 c10
                  refine go_eqI c10 ?_
                  refine go_tableIn (tgt := 137) dX12_found_89 (by decide) (by decide) rfl (by decide) ?_
                  refine go_aloadn dX12_found_137 rfl ?_
                  refine go_iloadn dX12_found_138 rfl ?_
                  refine go_iconst (v := (-1 : Int32)) dX12_found_139 rfl ?_
                  obtain ⟨c11, x3, ex3, H⟩ := gm_rc H
                  refine go_callV (vs := [aI v3, aI (-1 : Int32)]) (stk := []) (o1 := (some (aI x3), x1.2)) mk_X12_changes sv_X12_found_407 cl_X12 rfl dX12_found_140 c11 rfl rfl (Nat.le_of_ble_eq_true rfl) (Nat.le_of_ble_eq_true rfl) (ok_X12_changes ex3) (show Go M_X12_found (some (aI r.1), r.2) 143 [some (aA v0), some (aI v1), some (aI v2), some (aI v3), some (aI v4)] [aI x3] x1.2 from ?_)
                  obtain rfl := Option.some.inj H
                  exact go_ireturn dX12_found_143 (tyI_int rfl)
                · replace H := (gm_ite H).2 c10
                  by_cases c12 : v4 = (3 : Int32)
                  · replace H := (gm_ite H).1 c12
                    refine go_eqI c12 ?_
                    refine go_tableIn (tgt := 144) dX12_found_89 (by decide) (by decide) rfl (by decide) ?_
                    refine go_aloadn dX12_found_144 rfl ?_
                    refine go_iloadn dX12_found_145 rfl ?_
                    obtain ⟨c13, x4, ex4, H⟩ := gm_rc H
                    refine go_callV (vs := [aI v3]) (stk := []) (o1 := (some (aI x4), x1.2)) mk_X12_versionsBy sv_X12_found_416 cl_X12 rfl dX12_found_146 c13 rfl rfl (Nat.le_of_ble_eq_true rfl) (Nat.le_of_ble_eq_true rfl) (ok_X12_versionsBy ex4) (show Go M_X12_found (some (aI r.1), r.2) 149 [some (aA v0), some (aI v1), some (aI v2), some (aI v3), some (aI v4)] [aI x4] x1.2 from ?_)
                    obtain rfl := Option.some.inj H
                    exact go_ireturn dX12_found_149 (tyI_int rfl)
                  · replace H := (gm_ite H).2 c12
                    refine go_tableOut (tgt := 150) dX12_found_89 (sw_out (fun i h1 h2 e => ?_)) (by decide) ?_
                    · have h3 : i = 0 ∨ i = 1 ∨ i = 2 ∨ i = 3 := by omega
                      rcases h3 with rfl | rfl | rfl | rfl
                      · exact sw_ne c8 (by decide) e
                      · exact sw_ne c9 (by decide) e
                      · exact sw_ne c10 (by decide) e
                      · exact sw_ne c12 (by decide) e
                    · skip
                      refine go_iconst (v := (-1 : Int32)) dX12_found_150 rfl ?_
                      obtain rfl := Option.some.inj H
                      exact go_ireturn dX12_found_151 (tyI_int rfl)
          · replace H := (gm_ite H).2 c7
            refine go_aloadn dX12_found_76 rfl ?_
            refine go_iloadn dX12_found_77 rfl ?_
            refine go_iload dX12_found_78 rfl ?_
            refine go_bipush (v := (10 : Int32)) dX12_found_80 rfl ?_
            refine go_isub dX12_found_82 ?_
            obtain ⟨c14, x5, ex5, H⟩ := gm_rc H
            refine go_callV (vs := [aI v3, aI (v4 - (10 : Int32))]) (stk := []) (o1 := (some (aI x5), x1.2)) mk_X12_rank sv_X12_found_410 cl_X12 rfl dX12_found_83 c14 rfl rfl (Nat.le_of_ble_eq_true rfl) (Nat.le_of_ble_eq_true rfl) (ok_X12_rank ex5) (show Go M_X12_found (some (aI r.1), r.2) 86 [some (aA v0), some (aI v1), some (aI v2), some (aI v3), some (aI v4)] [aI x5] x1.2 from ?_)
            obtain rfl := Option.some.inj H
            exact go_ireturn dX12_found_86 (tyI_int rfl)
        · replace H := (gm_ite H).2 c6
          refine go_iload dX12_found_36 rfl ?_
          refine go_sipush (v := (200 : Int32)) dX12_found_38 rfl ?_
          refine go_icmp_ge (tgt := 57) dX12_found_41 (by decide) (fun c15 => ?_) (fun c15 => ?_)
          · replace H := (gm_ite H).1 c15
            refine go_aloadn dX12_found_57 rfl ?_
            refine go_iloadn dX12_found_58 rfl ?_
            refine go_iload dX12_found_59 rfl ?_
            refine go_sipush (v := (200 : Int32)) dX12_found_61 rfl ?_
            refine go_isub dX12_found_64 ?_
            obtain ⟨c16, x6, ex6, H⟩ := gm_rc H
            refine go_callV (vs := [aI v3, aI (v4 - (200 : Int32))]) (stk := []) (o1 := (some (aI x6), x1.2)) mk_X12_changes sv_X12_found_407 cl_X12 rfl dX12_found_65 c16 rfl rfl (Nat.le_of_ble_eq_true rfl) (Nat.le_of_ble_eq_true rfl) (ok_X12_changes ex6) (show Go M_X12_found (some (aI r.1), r.2) 68 [some (aA v0), some (aI v1), some (aI v2), some (aI v3), some (aI v4)] [aI x6] x1.2 from ?_)
            refine go_mask [false, false, false, false, false] (loc' := [none, none, none, none, none]) rfl ?_
            exact okj_X12_found_68 x6 x1.2  H
          · replace H := (gm_ite H).2 c15
            refine go_aloadn dX12_found_44 rfl ?_
            refine go_iloadn dX12_found_45 rfl ?_
            refine go_iload dX12_found_46 rfl ?_
            refine go_bipush (v := (100 : Int32)) dX12_found_48 rfl ?_
            refine go_isub dX12_found_50 ?_
            obtain ⟨c17, x7, ex7, H⟩ := gm_rc H
            refine go_callV (vs := [aI v3, aI (v4 - (100 : Int32))]) (stk := []) (o1 := (some (aI x7), x1.2)) mk_X12_asOf sv_X12_found_401 cl_X12 rfl dX12_found_51 c17 rfl rfl (Nat.le_of_ble_eq_true rfl) (Nat.le_of_ble_eq_true rfl) (ok_X12_asOf ex7) (show Go M_X12_found (some (aI r.1), r.2) 54 [some (aA v0), some (aI v1), some (aI v2), some (aI v3), some (aI v4)] [aI x7] x1.2 from ?_)
            refine go_goto (tgt := 68) dX12_found_54 (by decide) ?_
            refine go_mask [false, false, false, false, false] (loc' := [none, none, none, none, none]) rfl ?_
            exact okj_X12_found_68 x7 x1.2  H
      · replace H := (gm_ite H).2 c5
        refine go_iconst (v := (-1 : Int32)) dX12_found_27 rfl ?_
        obtain rfl := Option.some.inj H
        exact go_ireturn dX12_found_28 (tyI_int rfl)
/-! X8_heldMost -/
def j_X8_heldMost_38 (v0 : Nat) (v1 : Nat) (v2 : Nat) (v3 : Int32) (v4 : Int32)  (h : Hp) (k : Int32 → Int32 → Option Int32) : Option Int32 :=
  k v3 (v4 + (1 : Int32))
set_option maxRecDepth 20000 in
theorem okj_X8_heldMost_38 {r : Int32} (v0 : Nat) (v1 : Nat) (v2 : Nat) (v3 : Int32) (v4 : Int32)  (h : Hp) (k : Int32 → Int32 → Option Int32) (Hk : ∀ (v3q : Int32) (v4q : Int32), k v3q v4q = some r → Go M_X8_heldMost (some (aI r), h) 5 [some (aA v0), some (aA v1), some (aA v2), some (aI v3q), some (aI v4q)] [] h) (H : j_X8_heldMost_38 v0 v1 v2 v3 v4 h k = some r) : Go M_X8_heldMost (some (aI r), h) 38 [some (aA v0), some (aA v1), some (aA v2), some (aI v3), some (aI v4)] [] h := by
  unfold j_X8_heldMost_38 at H
  refine go_iinc (v := (v4 + (1 : Int32))) (loc2 := [some (aA v0), some (aA v1), some (aA v2), some (aI v3), some (aI (v4 + (1 : Int32)))]) dX8_heldMost_38 rfl rfl (by decide) rfl ?_
  refine go_goto (tgt := 5) dX8_heldMost_41 (by decide) ?_
  exact Hk v3 (v4 + (1 : Int32)) H
def j_X8_heldMost_35 (v0 : Nat) (v1 : Nat) (v2 : Nat) (v4 : Int32)  (h : Hp) (k : Int32 → Int32 → Option Int32) : Option Int32 :=
  j_X8_heldMost_38 v0 v1 v2 v4 v4 h k
set_option maxRecDepth 20000 in
theorem okj_X8_heldMost_35 {r : Int32} (v0 : Nat) (v1 : Nat) (v2 : Nat) (v4 : Int32)  (h : Hp) (k : Int32 → Int32 → Option Int32) (Hk : ∀ (v3q : Int32) (v4q : Int32), k v3q v4q = some r → Go M_X8_heldMost (some (aI r), h) 5 [some (aA v0), some (aA v1), some (aA v2), some (aI v3q), some (aI v4q)] [] h) (H : j_X8_heldMost_35 v0 v1 v2 v4 h k = some r) : Go M_X8_heldMost (some (aI r), h) 35 [some (aA v0), some (aA v1), some (aA v2), none, some (aI v4)] [] h := by
  unfold j_X8_heldMost_35 at H
  refine go_iload dX8_heldMost_35 rfl ?_
  refine go_istoren (loc2 := [some (aA v0), some (aA v1), some (aA v2), some (aI v4), some (aI v4)]) dX8_heldMost_37 rfl (by decide) rfl ?_
  exact okj_X8_heldMost_38 v0 v1 v2 v4 v4 h k Hk H
def b_X8_heldMost_5 (v0 : Nat) (v1 : Nat) (v2 : Nat) (h : Hp) (k : Int32 → Int32 → Option Int32) (v3 : Int32) (v4 : Int32) : Option Int32 :=
  (gfI h v2 6 0).bind fun x1 => if x1 ≤ v4 then (some v3) else if v3 = (-1 : Int32) then j_X8_heldMost_35 v0 v1 v2 v4 h k else (rc h v0 8 (m_X8_versionsHeld v0 v1 v4 h)).bind fun x2 => (rc h v0 8 (m_X8_versionsHeld v0 v1 v3 h)).bind fun x3 => if x2 ≤ x3 then j_X8_heldMost_38 v0 v1 v2 v3 v4 h k else j_X8_heldMost_35 v0 v1 v2 v4 h k
set_option maxRecDepth 20000 in
theorem okb_X8_heldMost_5 {r : Int32} (v0 : Nat) (v1 : Nat) (v2 : Nat) (h : Hp) (k : Int32 → Int32 → Option Int32) (v3 : Int32) (v4 : Int32) (Hk : ∀ (v3q : Int32) (v4q : Int32), k v3q v4q = some r → Go M_X8_heldMost (some (aI r), h) 5 [some (aA v0), some (aA v1), some (aA v2), some (aI v3q), some (aI v4q)] [] h) (H : b_X8_heldMost_5 v0 v1 v2 h k v3 v4 = some r) : Go M_X8_heldMost (some (aI r), h) 5 [some (aA v0), some (aA v1), some (aA v2), some (aI v3), some (aI v4)] [] h := by
  unfold b_X8_heldMost_5 at H
  refine go_iload dX8_heldMost_5 rfl ?_
  refine go_aloadn dX8_heldMost_7 rfl ?_
  refine gm_getI fd_X8_124 dX8_heldMost_8 H (fun x1 H => ?_)
  refine go_icmp_ge (tgt := 44) dX8_heldMost_11 (by decide) (fun c1 => ?_) (fun c1 => ?_)
  · replace H := (gm_ite H).1 c1
    refine go_iloadn dX8_heldMost_44 rfl ?_
    obtain rfl := Option.some.inj H
    exact go_ireturn dX8_heldMost_45 (tyI_int rfl)
  · replace H := (gm_ite H).2 c1
    refine go_iloadn dX8_heldMost_14 rfl ?_
    refine go_iconst (v := (-1 : Int32)) dX8_heldMost_15 rfl ?_
    refine go_icmp_eq (tgt := 35) dX8_heldMost_16 (by decide) (fun c2 => ?_) (fun c2 => ?_)
    · replace H := (gm_ite H).1 c2
      refine go_mask [true, true, true, false, true] (loc' := [some (aA v0), some (aA v1), some (aA v2), none, some (aI v4)]) rfl ?_
      exact okj_X8_heldMost_35 v0 v1 v2 v4 h k Hk H
    · replace H := (gm_ite H).2 c2
      refine go_aloadn dX8_heldMost_19 rfl ?_
      refine go_aloadn dX8_heldMost_20 rfl ?_
      refine go_iload dX8_heldMost_21 rfl ?_
      obtain ⟨c3, x2, ex2, H⟩ := gm_rc H
      refine go_callV (vs := [aA v1, aI v4]) (stk := []) (o1 := (some (aI x2), h)) mk_X8_versionsHeld sv_X8_heldMost_127 cl_X8 rfl dX8_heldMost_23 c3 rfl rfl (Nat.le_of_ble_eq_true rfl) (Nat.le_of_ble_eq_true rfl) (ok_X8_versionsHeld ex2) (show Go M_X8_heldMost (some (aI r), h) 26 [some (aA v0), some (aA v1), some (aA v2), some (aI v3), some (aI v4)] [aI x2] h from ?_)
      refine go_aloadn dX8_heldMost_26 rfl ?_
      refine go_aloadn dX8_heldMost_27 rfl ?_
      refine go_iloadn dX8_heldMost_28 rfl ?_
      obtain ⟨c4, x3, ex3, H⟩ := gm_rc H
      refine go_callV (vs := [aA v1, aI v3]) (stk := [aI x2]) (o1 := (some (aI x3), h)) mk_X8_versionsHeld sv_X8_heldMost_127 cl_X8 rfl dX8_heldMost_29 c4 rfl rfl (Nat.le_of_ble_eq_true rfl) (Nat.le_of_ble_eq_true rfl) (ok_X8_versionsHeld ex3) (show Go M_X8_heldMost (some (aI r), h) 32 [some (aA v0), some (aA v1), some (aA v2), some (aI v3), some (aI v4)] [aI x3, aI x2] h from ?_)
      refine go_icmp_le (tgt := 38) dX8_heldMost_32 (by decide) (fun c5 => ?_) (fun c5 => ?_)
      · replace H := (gm_ite H).1 c5
        exact okj_X8_heldMost_38 v0 v1 v2 v3 v4 h k Hk H
      · replace H := (gm_ite H).2 c5
        refine go_mask [true, true, true, false, true] (loc' := [some (aA v0), some (aA v1), some (aA v2), none, some (aI v4)]) rfl ?_
        exact okj_X8_heldMost_35 v0 v1 v2 v4 h k Hk H
def l_X8_heldMost_5 (v0 : Nat) (v1 : Nat) (v2 : Nat) (h : Hp) (v3 : Int32) (v4 : Int32) : Option Int32 := loopK FUEL (fun (k : Int32 × Int32 → Option Int32) (s : Int32 × Int32) => b_X8_heldMost_5 v0 v1 v2 h (fun v3q v4q => k (v3q, v4q)) s.1 s.2) (v3, v4)
theorem okl_X8_heldMost_5 {r : Int32} (v0 : Nat) (v1 : Nat) (v2 : Nat) (h : Hp) (v3 : Int32) (v4 : Int32) (H : l_X8_heldMost_5 v0 v1 v2 h v3 v4 = some r) : Go M_X8_heldMost (some (aI r), h) 5 [some (aA v0), some (aA v1), some (aA v2), some (aI v3), some (aI v4)] [] h := by
  unfold l_X8_heldMost_5 at H
  exact go_loop (σ := Int32 × Int32) (body := (fun (k : Int32 × Int32 → Option Int32) (s : Int32 × Int32) => b_X8_heldMost_5 v0 v1 v2 h (fun v3q v4q => k (v3q, v4q)) s.1 s.2)) (fun s => [some (aA v0), some (aA v1), some (aA v2), some (aI s.1), some (aI s.2)]) (fun s => h) (fun k s Hk H => okb_X8_heldMost_5 v0 v1 v2 h (fun v3q v4q => k (v3q, v4q)) s.1 s.2  (fun v3q v4q H => Hk (v3q, v4q) H) H) FUEL (v3, v4) H
def m_X8_heldMost (v0 : Nat) (v1 : Nat) (v2 : Nat) (h : Hp) : Option Int32 :=
  l_X8_heldMost_5 v0 v1 v2 h (-1 : Int32) (0 : Int32)
set_option maxRecDepth 20000 in
theorem ok_X8_heldMost {r : Int32} {v0 : Nat} {v1 : Nat} {v2 : Nat} {h : Hp} (H : m_X8_heldMost v0 v1 v2 h = some r) : Ev M_X8_heldMost [aA v0, aA v1, aA v2] h (some (aI r), h) := by
  show Go M_X8_heldMost (some (aI r), h) 0 [some (aA v0), some (aA v1), some (aA v2), none, none] [] h
  unfold m_X8_heldMost at H
  refine go_iconst (v := (-1 : Int32)) dX8_heldMost_0 rfl ?_
  refine go_istoren (loc2 := [some (aA v0), some (aA v1), some (aA v2), some (aI (-1 : Int32)), none]) dX8_heldMost_1 rfl (by decide) rfl ?_
  refine go_iconst (v := (0 : Int32)) dX8_heldMost_2 rfl ?_
  refine go_istore (loc2 := [some (aA v0), some (aA v1), some (aA v2), some (aI (-1 : Int32)), some (aI (0 : Int32))]) dX8_heldMost_3 (by decide) rfl ?_
  exact okl_X8_heldMost_5 v0 v1 v2 h (-1 : Int32) (0 : Int32) H
/-! X8_within -/
def b_X8_within_3 (v0 : Nat) (v1 : Nat) (v2 : Int32) (v3 : Int32) (h : Hp) (k : Int32 → Option Int32) (v4 : Int32) : Option Int32 :=
  (gfI h v1 1 0).bind fun x1 => if x1 ≤ v4 then (some (1 : Int32)) else (rc h v0 8 (m_X8_held v0 v2 v4 h)).bind fun x2 => (rc h v0 8 (m_X8_held v0 v3 v4 h)).bind fun x3 => if (x2 &&& (x3 ^^^ (-1 : Int32))) = 0 then (k (v4 + (1 : Int32))) else some (0 : Int32)
set_option maxRecDepth 20000 in
theorem okb_X8_within_3 {r : Int32} (v0 : Nat) (v1 : Nat) (v2 : Int32) (v3 : Int32) (h : Hp) (k : Int32 → Option Int32) (v4 : Int32) (Hk : ∀ (v4q : Int32), k v4q = some r → Go M_X8_within (some (aI r), h) 3 [some (aA v0), some (aA v1), some (aI v2), some (aI v3), some (aI v4q)] [] h) (H : b_X8_within_3 v0 v1 v2 v3 h k v4 = some r) : Go M_X8_within (some (aI r), h) 3 [some (aA v0), some (aA v1), some (aI v2), some (aI v3), some (aI v4)] [] h := by
  unfold b_X8_within_3 at H
  refine go_iload dX8_within_3 rfl ?_
  refine go_aloadn dX8_within_5 rfl ?_
  refine gm_getI fd_X8_19 dX8_within_6 H (fun x1 H => ?_)
  refine go_icmp_ge (tgt := 40) dX8_within_9 (by decide) (fun c1 => ?_) (fun c1 => ?_)
  · replace H := (gm_ite H).1 c1
    refine go_iconst (v := (1 : Int32)) dX8_within_40 rfl ?_
    obtain rfl := Option.some.inj H
    exact go_ireturn (x := (1 : Int32)) dX8_within_41 (tyI_bool rfl (by decide))
  · replace H := (gm_ite H).2 c1
    refine go_aloadn dX8_within_12 rfl ?_
    refine go_iloadn dX8_within_13 rfl ?_
    refine go_iload dX8_within_14 rfl ?_
    obtain ⟨c2, x2, ex2, H⟩ := gm_rc H
    refine go_callV (vs := [aI v2, aI v4]) (stk := []) (o1 := (some (aI x2), h)) mk_X8_held sv_X8_within_41 cl_X8 rfl dX8_within_16 c2 rfl rfl (Nat.le_of_ble_eq_true rfl) (Nat.le_of_ble_eq_true rfl) (ok_X8_held ex2) (show Go M_X8_within (some (aI r), h) 19 [some (aA v0), some (aA v1), some (aI v2), some (aI v3), some (aI v4)] [aI x2] h from ?_)
    refine go_aloadn dX8_within_19 rfl ?_
    refine go_iloadn dX8_within_20 rfl ?_
    refine go_iload dX8_within_21 rfl ?_
    obtain ⟨c3, x3, ex3, H⟩ := gm_rc H
    refine go_callV (vs := [aI v3, aI v4]) (stk := [aI x2]) (o1 := (some (aI x3), h)) mk_X8_held sv_X8_within_41 cl_X8 rfl dX8_within_23 c3 rfl rfl (Nat.le_of_ble_eq_true rfl) (Nat.le_of_ble_eq_true rfl) (ok_X8_held ex3) (show Go M_X8_within (some (aI r), h) 26 [some (aA v0), some (aA v1), some (aI v2), some (aI v3), some (aI v4)] [aI x3, aI x2] h from ?_)
    refine go_iconst (v := (-1 : Int32)) dX8_within_26 rfl ?_
    refine go_ixor dX8_within_27 ?_
    refine go_iand dX8_within_28 ?_
    refine go_if_eq (tgt := 34) dX8_within_29 (by decide) (fun c4 => ?_) (fun c4 => ?_)
    · replace H := (gm_ite H).1 c4
      refine go_iinc (v := (v4 + (1 : Int32))) (loc2 := [some (aA v0), some (aA v1), some (aI v2), some (aI v3), some (aI (v4 + (1 : Int32)))]) dX8_within_34 rfl rfl (by decide) rfl ?_
      refine go_goto (tgt := 3) dX8_within_37 (by decide) ?_
      exact Hk (v4 + (1 : Int32)) H
    · replace H := (gm_ite H).2 c4
      refine go_iconst (v := (0 : Int32)) dX8_within_32 rfl ?_
      obtain rfl := Option.some.inj H
      exact go_ireturn (x := (0 : Int32)) dX8_within_33 (tyI_bool rfl (by decide))
def l_X8_within_3 (v0 : Nat) (v1 : Nat) (v2 : Int32) (v3 : Int32) (h : Hp) (v4 : Int32) : Option Int32 := loopK FUEL (fun (k : Int32 → Option Int32) (s : Int32) => b_X8_within_3 v0 v1 v2 v3 h (fun v4q => k v4q) s) v4
theorem okl_X8_within_3 {r : Int32} (v0 : Nat) (v1 : Nat) (v2 : Int32) (v3 : Int32) (h : Hp) (v4 : Int32) (H : l_X8_within_3 v0 v1 v2 v3 h v4 = some r) : Go M_X8_within (some (aI r), h) 3 [some (aA v0), some (aA v1), some (aI v2), some (aI v3), some (aI v4)] [] h := by
  unfold l_X8_within_3 at H
  exact go_loop (σ := Int32) (body := (fun (k : Int32 → Option Int32) (s : Int32) => b_X8_within_3 v0 v1 v2 v3 h (fun v4q => k v4q) s)) (fun s => [some (aA v0), some (aA v1), some (aI v2), some (aI v3), some (aI s)]) (fun s => h) (fun k s Hk H => okb_X8_within_3 v0 v1 v2 v3 h (fun v4q => k v4q) s  (fun v4q H => Hk v4q H) H) FUEL v4 H
def m_X8_within (v0 : Nat) (v1 : Nat) (v2 : Int32) (v3 : Int32) (h : Hp) : Option Int32 :=
  l_X8_within_3 v0 v1 v2 v3 h (0 : Int32)
set_option maxRecDepth 20000 in
theorem ok_X8_within {r : Int32} {v0 : Nat} {v1 : Nat} {v2 : Int32} {v3 : Int32} {h : Hp} (H : m_X8_within v0 v1 v2 v3 h = some r) : Ev M_X8_within [aA v0, aA v1, aI v2, aI v3] h (some (aI r), h) := by
  show Go M_X8_within (some (aI r), h) 0 [some (aA v0), some (aA v1), some (aI v2), some (aI v3), none] [] h
  unfold m_X8_within at H
  refine go_iconst (v := (0 : Int32)) dX8_within_0 rfl ?_
  refine go_istore (loc2 := [some (aA v0), some (aA v1), some (aI v2), some (aI v3), some (aI (0 : Int32))]) dX8_within_1 (by decide) rfl ?_
  exact okl_X8_within_3 v0 v1 v2 v3 h (0 : Int32) H
/-! X8_sameCouples -/
def j_X8_sameCouples_54 (v0 : Nat) (v1 : Nat) (v2 : Nat) (v4 : Int32) (v5 : Int32) (s0 : Int32) (s1 : Int32) (h : Hp) (K62 : Int32 → Option Int32) (k : Int32 → Int32 → Option Int32) : Option Int32 :=
  k (s0 + s1) (v5 + (1 : Int32))
set_option maxRecDepth 20000 in
theorem okj_X8_sameCouples_54 {r : Int32} (v0 : Nat) (v1 : Nat) (v2 : Nat) (v4 : Int32) (v5 : Int32) (s0 : Int32) (s1 : Int32) (h : Hp) (K62 : Int32 → Option Int32) (k : Int32 → Int32 → Option Int32) (HK62 : ∀ (v3q : Int32) , K62 v3q = some r → Go M_X8_sameCouples (some (aI r), h) 62 [some (aA v0), some (aA v1), some (aA v2), some (aI v3q), some (aI v4), none] [] h) (Hk : ∀ (v3q : Int32) (v5q : Int32), k v3q v5q = some r → Go M_X8_sameCouples (some (aI r), h) 17 [some (aA v0), some (aA v1), some (aA v2), some (aI v3q), some (aI v4), some (aI v5q)] [] h) (H : j_X8_sameCouples_54 v0 v1 v2 v4 v5 s0 s1 h K62 k = some r) : Go M_X8_sameCouples (some (aI r), h) 54 [some (aA v0), some (aA v1), some (aA v2), none, some (aI v4), some (aI v5)] [aI s1, aI s0] h := by
  unfold j_X8_sameCouples_54 at H
  refine go_iadd dX8_sameCouples_54 ?_
  refine go_istoren (loc2 := [some (aA v0), some (aA v1), some (aA v2), some (aI (s0 + s1)), some (aI v4), some (aI v5)]) dX8_sameCouples_55 rfl (by decide) rfl ?_
  refine go_iinc (v := (v5 + (1 : Int32))) (loc2 := [some (aA v0), some (aA v1), some (aA v2), some (aI (s0 + s1)), some (aI v4), some (aI (v5 + (1 : Int32)))]) dX8_sameCouples_56 rfl rfl (by decide) rfl ?_
  refine go_goto (tgt := 17) dX8_sameCouples_59 (by decide) ?_
  exact Hk (s0 + s1) (v5 + (1 : Int32)) H
def b_X8_sameCouples_17 (v0 : Nat) (v1 : Nat) (v2 : Nat) (v4 : Int32) (h : Hp) (K62 : Int32 → Option Int32) (k : Int32 → Int32 → Option Int32) (v3 : Int32) (v5 : Int32) : Option Int32 :=
  if v4 ≤ v5 then K62 v3 else (rc h v0 8 (m_X8_within v0 v1 v4 v5 h)).bind fun x1 => if x1 = 0 then j_X8_sameCouples_54 v0 v1 v2 v4 v5 v3 (0 : Int32) h K62 k else (rc h v0 8 (m_X8_within v0 v1 v5 v4 h)).bind fun x2 => j_X8_sameCouples_54 v0 v1 v2 v4 v5 v3 (if x2 = 0 then (0 : Int32) else (1 : Int32)) h K62 k
set_option maxRecDepth 20000 in
theorem okb_X8_sameCouples_17 {r : Int32} (v0 : Nat) (v1 : Nat) (v2 : Nat) (v4 : Int32) (h : Hp) (K62 : Int32 → Option Int32) (k : Int32 → Int32 → Option Int32) (v3 : Int32) (v5 : Int32) (HK62 : ∀ (v3q : Int32) , K62 v3q = some r → Go M_X8_sameCouples (some (aI r), h) 62 [some (aA v0), some (aA v1), some (aA v2), some (aI v3q), some (aI v4), none] [] h) (Hk : ∀ (v3q : Int32) (v5q : Int32), k v3q v5q = some r → Go M_X8_sameCouples (some (aI r), h) 17 [some (aA v0), some (aA v1), some (aA v2), some (aI v3q), some (aI v4), some (aI v5q)] [] h) (H : b_X8_sameCouples_17 v0 v1 v2 v4 h K62 k v3 v5 = some r) : Go M_X8_sameCouples (some (aI r), h) 17 [some (aA v0), some (aA v1), some (aA v2), some (aI v3), some (aI v4), some (aI v5)] [] h := by
  unfold b_X8_sameCouples_17 at H
  refine go_iload dX8_sameCouples_17 rfl ?_
  refine go_iload dX8_sameCouples_19 rfl ?_
  refine go_icmp_ge (tgt := 62) dX8_sameCouples_21 (by decide) (fun c1 => ?_) (fun c1 => ?_)
  · replace H := (gm_ite H).1 c1
    refine go_mask [true, true, true, true, true, false] (loc' := [some (aA v0), some (aA v1), some (aA v2), some (aI v3), some (aI v4), none]) rfl ?_
    exact HK62 v3 H
  · replace H := (gm_ite H).2 c1
    refine go_iloadn dX8_sameCouples_24 rfl ?_
    refine go_aloadn dX8_sameCouples_25 rfl ?_
    refine go_aloadn dX8_sameCouples_26 rfl ?_
    refine go_iload dX8_sameCouples_27 rfl ?_
    refine go_iload dX8_sameCouples_29 rfl ?_
    obtain ⟨c2, x1, ex1, H⟩ := gm_rc H
    refine go_callV (vs := [aA v1, aI v4, aI v5]) (stk := [aI v3]) (o1 := (some (aI x1), h)) mk_X8_within sv_X8_sameCouples_131 cl_X8 rfl dX8_sameCouples_31 c2 rfl rfl (Nat.le_of_ble_eq_true rfl) (Nat.le_of_ble_eq_true rfl) (ok_X8_within ex1) (show Go M_X8_sameCouples (some (aI r), h) 34 [some (aA v0), some (aA v1), some (aA v2), some (aI v3), some (aI v4), some (aI v5)] [aI x1, aI v3] h from ?_)
    refine go_if_eq (tgt := 53) dX8_sameCouples_34 (by decide) (fun c3 => ?_) (fun c3 => ?_)
    · replace H := (gm_ite H).1 c3
      refine go_iconst (v := (0 : Int32)) dX8_sameCouples_53 rfl ?_
      refine go_mask [true, true, true, false, true, true] (loc' := [some (aA v0), some (aA v1), some (aA v2), none, some (aI v4), some (aI v5)]) rfl ?_
      exact okj_X8_sameCouples_54 v0 v1 v2 v4 v5 v3 (0 : Int32) h K62 k HK62 Hk H
    · replace H := (gm_ite H).2 c3
      refine go_aloadn dX8_sameCouples_37 rfl ?_
      refine go_aloadn dX8_sameCouples_38 rfl ?_
      refine go_iload dX8_sameCouples_39 rfl ?_
      refine go_iload dX8_sameCouples_41 rfl ?_
      obtain ⟨c4, x2, ex2, H⟩ := gm_rc H
      refine go_callV (vs := [aA v1, aI v5, aI v4]) (stk := [aI v3]) (o1 := (some (aI x2), h)) mk_X8_within sv_X8_sameCouples_131 cl_X8 rfl dX8_sameCouples_43 c4 rfl rfl (Nat.le_of_ble_eq_true rfl) (Nat.le_of_ble_eq_true rfl) (ok_X8_within ex2) (show Go M_X8_sameCouples (some (aI r), h) 46 [some (aA v0), some (aA v1), some (aA v2), some (aI v3), some (aI v4), some (aI v5)] [aI x2, aI v3] h from ?_)
      refine go_if_eq (tgt := 53) dX8_sameCouples_46 (by decide) (fun c5 => ?_) (fun c5 => ?_)
      · rw [if_pos c5] at H
        refine go_iconst (v := (0 : Int32)) dX8_sameCouples_53 rfl ?_
        refine go_mask [true, true, true, false, true, true] (loc' := [some (aA v0), some (aA v1), some (aA v2), none, some (aI v4), some (aI v5)]) rfl ?_
        exact okj_X8_sameCouples_54 v0 v1 v2 v4 v5 v3 (0 : Int32) h K62 k HK62 Hk H
      · rw [if_neg c5] at H
        refine go_iconst (v := (1 : Int32)) dX8_sameCouples_49 rfl ?_
        refine go_goto (tgt := 54) dX8_sameCouples_50 (by decide) ?_
        refine go_mask [true, true, true, false, true, true] (loc' := [some (aA v0), some (aA v1), some (aA v2), none, some (aI v4), some (aI v5)]) rfl ?_
        exact okj_X8_sameCouples_54 v0 v1 v2 v4 v5 v3 (1 : Int32) h K62 k HK62 Hk H
def l_X8_sameCouples_17 (v0 : Nat) (v1 : Nat) (v2 : Nat) (v4 : Int32) (h : Hp) (K62 : Int32 → Option Int32) (v3 : Int32) (v5 : Int32) : Option Int32 := loopK FUEL (fun (k : Int32 × Int32 → Option Int32) (s : Int32 × Int32) => b_X8_sameCouples_17 v0 v1 v2 v4 h K62 (fun v3q v5q => k (v3q, v5q)) s.1 s.2) (v3, v5)
theorem okl_X8_sameCouples_17 {r : Int32} (v0 : Nat) (v1 : Nat) (v2 : Nat) (v4 : Int32) (h : Hp) (K62 : Int32 → Option Int32) (v3 : Int32) (v5 : Int32) (HK62 : ∀ (v3q : Int32) , K62 v3q = some r → Go M_X8_sameCouples (some (aI r), h) 62 [some (aA v0), some (aA v1), some (aA v2), some (aI v3q), some (aI v4), none] [] h) (H : l_X8_sameCouples_17 v0 v1 v2 v4 h K62 v3 v5 = some r) : Go M_X8_sameCouples (some (aI r), h) 17 [some (aA v0), some (aA v1), some (aA v2), some (aI v3), some (aI v4), some (aI v5)] [] h := by
  unfold l_X8_sameCouples_17 at H
  exact go_loop (σ := Int32 × Int32) (body := (fun (k : Int32 × Int32 → Option Int32) (s : Int32 × Int32) => b_X8_sameCouples_17 v0 v1 v2 v4 h K62 (fun v3q v5q => k (v3q, v5q)) s.1 s.2)) (fun s => [some (aA v0), some (aA v1), some (aA v2), some (aI s.1), some (aI v4), some (aI s.2)]) (fun s => h) (fun k s Hk H => okb_X8_sameCouples_17 v0 v1 v2 v4 h K62 (fun v3q v5q => k (v3q, v5q)) s.1 s.2 HK62 (fun v3q v5q H => Hk (v3q, v5q) H) H) FUEL (v3, v5) H
def j_X8_sameCouples_62 (v0 : Nat) (v1 : Nat) (v2 : Nat) (v3 : Int32) (v4 : Int32)  (h : Hp) (k : Int32 → Int32 → Option Int32) : Option Int32 :=
  k v3 (v4 + (1 : Int32))
set_option maxRecDepth 20000 in
theorem okj_X8_sameCouples_62 {r : Int32} (v0 : Nat) (v1 : Nat) (v2 : Nat) (v3 : Int32) (v4 : Int32)  (h : Hp) (k : Int32 → Int32 → Option Int32) (Hk : ∀ (v3q : Int32) (v4q : Int32), k v3q v4q = some r → Go M_X8_sameCouples (some (aI r), h) 5 [some (aA v0), some (aA v1), some (aA v2), some (aI v3q), some (aI v4q), none] [] h) (H : j_X8_sameCouples_62 v0 v1 v2 v3 v4 h k = some r) : Go M_X8_sameCouples (some (aI r), h) 62 [some (aA v0), some (aA v1), some (aA v2), some (aI v3), some (aI v4), none] [] h := by
  unfold j_X8_sameCouples_62 at H
  refine go_iinc (v := (v4 + (1 : Int32))) (loc2 := [some (aA v0), some (aA v1), some (aA v2), some (aI v3), some (aI (v4 + (1 : Int32))), none]) dX8_sameCouples_62 rfl rfl (by decide) rfl ?_
  refine go_goto (tgt := 5) dX8_sameCouples_65 (by decide) ?_
  exact Hk v3 (v4 + (1 : Int32)) H
def b_X8_sameCouples_5 (v0 : Nat) (v1 : Nat) (v2 : Nat) (h : Hp) (k : Int32 → Int32 → Option Int32) (v3 : Int32) (v4 : Int32) : Option Int32 :=
  (gfI h v2 6 0).bind fun x1 => if x1 ≤ v4 then (some v3) else l_X8_sameCouples_17 v0 v1 v2 v4 h (fun a2_3 => j_X8_sameCouples_62 v0 v1 v2 a2_3 v4 h k) v3 (0 : Int32)
set_option maxRecDepth 20000 in
theorem okb_X8_sameCouples_5 {r : Int32} (v0 : Nat) (v1 : Nat) (v2 : Nat) (h : Hp) (k : Int32 → Int32 → Option Int32) (v3 : Int32) (v4 : Int32) (Hk : ∀ (v3q : Int32) (v4q : Int32), k v3q v4q = some r → Go M_X8_sameCouples (some (aI r), h) 5 [some (aA v0), some (aA v1), some (aA v2), some (aI v3q), some (aI v4q), none] [] h) (H : b_X8_sameCouples_5 v0 v1 v2 h k v3 v4 = some r) : Go M_X8_sameCouples (some (aI r), h) 5 [some (aA v0), some (aA v1), some (aA v2), some (aI v3), some (aI v4), none] [] h := by
  unfold b_X8_sameCouples_5 at H
  refine go_iload dX8_sameCouples_5 rfl ?_
  refine go_aloadn dX8_sameCouples_7 rfl ?_
  refine gm_getI fd_X8_124 dX8_sameCouples_8 H (fun x1 H => ?_)
  refine go_icmp_ge (tgt := 68) dX8_sameCouples_11 (by decide) (fun c1 => ?_) (fun c1 => ?_)
  · replace H := (gm_ite H).1 c1
    refine go_iloadn dX8_sameCouples_68 rfl ?_
    obtain rfl := Option.some.inj H
    exact go_ireturn dX8_sameCouples_69 (tyI_int rfl)
  · replace H := (gm_ite H).2 c1
    refine go_iconst (v := (0 : Int32)) dX8_sameCouples_14 rfl ?_
    refine go_istore (loc2 := [some (aA v0), some (aA v1), some (aA v2), some (aI v3), some (aI v4), some (aI (0 : Int32))]) dX8_sameCouples_15 (by decide) rfl ?_
    refine okl_X8_sameCouples_17 v0 v1 v2 v4 h (fun a2_3 => j_X8_sameCouples_62 v0 v1 v2 a2_3 v4 h k) v3 (0 : Int32) ?_ H
    · intro a2_3 H
      exact okj_X8_sameCouples_62 v0 v1 v2 a2_3 v4 h k Hk H
def l_X8_sameCouples_5 (v0 : Nat) (v1 : Nat) (v2 : Nat) (h : Hp) (v3 : Int32) (v4 : Int32) : Option Int32 := loopK FUEL (fun (k : Int32 × Int32 → Option Int32) (s : Int32 × Int32) => b_X8_sameCouples_5 v0 v1 v2 h (fun v3q v4q => k (v3q, v4q)) s.1 s.2) (v3, v4)
theorem okl_X8_sameCouples_5 {r : Int32} (v0 : Nat) (v1 : Nat) (v2 : Nat) (h : Hp) (v3 : Int32) (v4 : Int32) (H : l_X8_sameCouples_5 v0 v1 v2 h v3 v4 = some r) : Go M_X8_sameCouples (some (aI r), h) 5 [some (aA v0), some (aA v1), some (aA v2), some (aI v3), some (aI v4), none] [] h := by
  unfold l_X8_sameCouples_5 at H
  exact go_loop (σ := Int32 × Int32) (body := (fun (k : Int32 × Int32 → Option Int32) (s : Int32 × Int32) => b_X8_sameCouples_5 v0 v1 v2 h (fun v3q v4q => k (v3q, v4q)) s.1 s.2)) (fun s => [some (aA v0), some (aA v1), some (aA v2), some (aI s.1), some (aI s.2), none]) (fun s => h) (fun k s Hk H => okb_X8_sameCouples_5 v0 v1 v2 h (fun v3q v4q => k (v3q, v4q)) s.1 s.2  (fun v3q v4q H => Hk (v3q, v4q) H) H) FUEL (v3, v4) H
def m_X8_sameCouples (v0 : Nat) (v1 : Nat) (v2 : Nat) (h : Hp) : Option Int32 :=
  l_X8_sameCouples_5 v0 v1 v2 h (0 : Int32) (0 : Int32)
set_option maxRecDepth 20000 in
theorem ok_X8_sameCouples {r : Int32} {v0 : Nat} {v1 : Nat} {v2 : Nat} {h : Hp} (H : m_X8_sameCouples v0 v1 v2 h = some r) : Ev M_X8_sameCouples [aA v0, aA v1, aA v2] h (some (aI r), h) := by
  show Go M_X8_sameCouples (some (aI r), h) 0 [some (aA v0), some (aA v1), some (aA v2), none, none, none] [] h
  unfold m_X8_sameCouples at H
  refine go_iconst (v := (0 : Int32)) dX8_sameCouples_0 rfl ?_
  refine go_istoren (loc2 := [some (aA v0), some (aA v1), some (aA v2), some (aI (0 : Int32)), none, none]) dX8_sameCouples_1 rfl (by decide) rfl ?_
  refine go_iconst (v := (0 : Int32)) dX8_sameCouples_2 rfl ?_
  refine go_istore (loc2 := [some (aA v0), some (aA v1), some (aA v2), some (aI (0 : Int32)), some (aI (0 : Int32)), none]) dX8_sameCouples_3 (by decide) rfl ?_
  exact okl_X8_sameCouples_5 v0 v1 v2 h (0 : Int32) (0 : Int32) H
/-! X11_best -/
def m_X11_best (v0 : Nat) (v1 : Int32) (v2 : Int32) (v3 : Int32) (h : Hp) : Option (Int32 × Hp) :=
  (gfR h v0 11 0).bind fun x1 => (rc h x1 9 (m_X9_archiveAt x1 v1 h)).bind fun x2 => (gfR h v0 11 0).bind fun x3 => (rc h x3 9 (m_X9_questionsAt x3 v2 h)).bind fun x4 => (nz x2).bind fun _ => if x2 = 0 then (some ((-2 : Int32), h)) else (nz x4).bind fun _ => if ¬ x4 = 0 then ((gfR h v0 11 4).bind fun x5 => (gfI h x4 6 0).bind fun x6 => (rc h x5 8 (m_X8_look x5 x2 x4 (x6 - (1 : Int32)) h)).bind fun x7 => if v3 = (0 : Int32) then ((gfR x7 v0 11 4).bind fun x8 => (rc x7 x8 8 (m_X8_heldMost x8 x2 x4 x7)).bind fun x9 => some (x9, x7)) else if v3 = (1 : Int32) then ((gfR x7 v0 11 4).bind fun x10 => (rc x7 x10 8 (m_X8_sameCouples x10 x2 x4 x7)).bind fun x11 => some (x11, x7)) else some ((-2 : Int32), x7)) else some ((-2 : Int32), h)
set_option maxRecDepth 20000 in
theorem ok_X11_best {r : (Int32 × Hp)} {v0 : Nat} {v1 : Int32} {v2 : Int32} {v3 : Int32} {h : Hp} (H : m_X11_best v0 v1 v2 v3 h = some r) : Ev M_X11_best [aA v0, aI v1, aI v2, aI v3] h (some (aI r.1), r.2) := by
  show Go M_X11_best (some (aI r.1), r.2) 0 [some (aA v0), some (aI v1), some (aI v2), some (aI v3), none, none] [] h
  unfold m_X11_best at H
  refine go_aloadn dX11_best_0 rfl ?_
  refine gm_getR fd_X11_10 dX11_best_1 H (fun x1 H => ?_)
  refine go_iloadn dX11_best_4 rfl ?_
  obtain ⟨c1, x2, ex2, H⟩ := gm_rc H
  refine go_callV (vs := [aI v1]) (stk := []) (o1 := (some (aA x2), h)) mk_X9_archiveAt sv_X11_best_86 cl_X9 rfl dX11_best_5 c1 rfl rfl (Nat.le_of_ble_eq_true rfl) (Nat.le_of_ble_eq_true rfl) (ok_X9_archiveAt ex2) (show Go M_X11_best (some (aI r.1), r.2) 8 [some (aA v0), some (aI v1), some (aI v2), some (aI v3), none, none] [aA x2] h from ?_)
  refine go_astore (loc2 := [some (aA v0), some (aI v1), some (aI v2), some (aI v3), some (aA x2), none]) dX11_best_8 (by decide) rfl ?_
  refine go_aloadn dX11_best_10 rfl ?_
  refine gm_getR fd_X11_10 dX11_best_11 H (fun x3 H => ?_)
  refine go_iloadn dX11_best_14 rfl ?_
  obtain ⟨c2, x4, ex4, H⟩ := gm_rc H
  refine go_callV (vs := [aI v2]) (stk := []) (o1 := (some (aA x4), h)) mk_X9_questionsAt sv_X11_best_231 cl_X9 rfl dX11_best_15 c2 rfl rfl (Nat.le_of_ble_eq_true rfl) (Nat.le_of_ble_eq_true rfl) (ok_X9_questionsAt ex4) (show Go M_X11_best (some (aI r.1), r.2) 18 [some (aA v0), some (aI v1), some (aI v2), some (aI v3), some (aA x2), none] [aA x4] h from ?_)
  refine go_astore (loc2 := [some (aA v0), some (aI v1), some (aI v2), some (aI v3), some (aA x2), some (aA x4)]) dX11_best_18 (by decide) rfl ?_
  refine go_aload dX11_best_20 rfl ?_
  obtain ⟨c4, H⟩ := gm_nz H
  refine go_ifnull (tgt := 30) dX11_best_22 (by decide) c4 (fun c3 => ?_) (fun c3 => ?_)
  · replace H := (gm_ite H).1 c3
    refine go_bipush (v := (-2 : Int32)) dX11_best_30 rfl ?_
    obtain rfl := Option.some.inj H
    exact go_ireturn dX11_best_32 (tyI_int rfl)
  · replace H := (gm_ite H).2 c3
    refine go_aload dX11_best_25 rfl ?_
    obtain ⟨c6, H⟩ := gm_nz H
    refine go_ifnonnull (tgt := 33) dX11_best_27 (by decide) c6 (fun c5 => ?_) (fun c5 => ?_)
    · replace H := (gm_ite H).1 c5
      refine go_aloadn dX11_best_33 rfl ?_
      refine gm_getR fd_X11_37 dX11_best_34 H (fun x5 H => ?_)
      refine go_aload dX11_best_37 rfl ?_
      refine go_aload dX11_best_39 rfl ?_
      refine go_aload dX11_best_41 rfl ?_
      refine gm_getI fd_X11_235 dX11_best_43 H (fun x6 H => ?_)
      refine go_iconst (v := (1 : Int32)) dX11_best_46 rfl ?_
      refine go_isub dX11_best_47 ?_
      obtain ⟨c7, x7, ex7, H⟩ := gm_rc H
      refine go_callV (vs := [aA x2, aA x4, aI (x6 - (1 : Int32))]) (stk := []) (o1 := (none, x7)) mk_X8_look sv_X11_best_254 cl_X8 rfl dX11_best_48 c7 rfl rfl (Nat.le_of_ble_eq_true rfl) (Nat.le_of_ble_eq_true rfl) (ok_X8_look ex7) (show Go M_X11_best (some (aI r.1), r.2) 51 [some (aA v0), some (aI v1), some (aI v2), some (aI v3), some (aA x2), some (aA x4)] [] x7 from ?_)
      refine go_iloadn dX11_best_51 rfl ?_
      by_cases c8 : v3 = (0 : Int32)
      · replace H := (gm_ite H).1 c8
        refine go_eqI c8 ?_
        refine go_lookup (tgt := 80) dX11_best_52 (by decide) rfl (by decide) ?_
        refine go_aloadn dX11_best_80 rfl ?_
        refine gm_getR fd_X11_37 dX11_best_81 H (fun x8 H => ?_)
        refine go_aload dX11_best_84 rfl ?_
        refine go_aload dX11_best_86 rfl ?_
        obtain ⟨c9, x9, ex9, H⟩ := gm_rc H
        refine go_callV (vs := [aA x2, aA x4]) (stk := []) (o1 := (some (aI x9), x7)) mk_X8_heldMost sv_X11_best_295 cl_X8 rfl dX11_best_88 c9 rfl rfl (Nat.le_of_ble_eq_true rfl) (Nat.le_of_ble_eq_true rfl) (ok_X8_heldMost ex9) (show Go M_X11_best (some (aI r.1), r.2) 91 [some (aA v0), some (aI v1), some (aI v2), some (aI v3), some (aA x2), some (aA x4)] [aI x9] x7 from ?_)
        obtain rfl := Option.some.inj H
        exact go_ireturn dX11_best_91 (tyI_int rfl)
      · replace H := (gm_ite H).2 c8
        by_cases c10 : v3 = (1 : Int32)
        · replace H := (gm_ite H).1 c10
          refine go_eqI c10 ?_
          refine go_lookup (tgt := 92) dX11_best_52 (by decide) rfl (by decide) ?_
          refine go_aloadn dX11_best_92 rfl ?_
          refine gm_getR fd_X11_37 dX11_best_93 H (fun x10 H => ?_)
          refine go_aload dX11_best_96 rfl ?_
          refine go_aload dX11_best_98 rfl ?_
          obtain ⟨c11, x11, ex11, H⟩ := gm_rc H
          refine go_callV (vs := [aA x2, aA x4]) (stk := []) (o1 := (some (aI x11), x7)) mk_X8_sameCouples sv_X11_best_299 cl_X8 rfl dX11_best_100 c11 rfl rfl (Nat.le_of_ble_eq_true rfl) (Nat.le_of_ble_eq_true rfl) (ok_X8_sameCouples ex11) (show Go M_X11_best (some (aI r.1), r.2) 103 [some (aA v0), some (aI v1), some (aI v2), some (aI v3), some (aA x2), some (aA x4)] [aI x11] x7 from ?_)
          obtain rfl := Option.some.inj H
          exact go_ireturn dX11_best_103 (tyI_int rfl)
        · replace H := (gm_ite H).2 c10
          refine go_lookup (tgt := 104) (off := 52) dX11_best_52 (by decide) ((lv_osw c8 (by decide)).trans ((lv_osw c10 (by decide)).trans rfl)) (by decide) ?_
          refine go_bipush (v := (-2 : Int32)) dX11_best_104 rfl ?_
          obtain rfl := Option.some.inj H
          exact go_ireturn dX11_best_106 (tyI_int rfl)
    · replace H := (gm_ite H).2 (fun q => q c5)
      refine go_bipush (v := (-2 : Int32)) dX11_best_30 rfl ?_
      obtain rfl := Option.some.inj H
      exact go_ireturn dX11_best_32 (tyI_int rfl)
/-! X12_bestAsking -/
def j_X12_bestAsking_35 (v0 : Nat) (v2 : Int32) (s0 : Int32) (h : Hp) (k : Int32 → Int32 → Option Int32) : Option Int32 :=
  k s0 (v2 + (1 : Int32))
set_option maxRecDepth 20000 in
theorem okj_X12_bestAsking_35 {r : Int32} (v0 : Nat) (v2 : Int32) (s0 : Int32) (h : Hp) (k : Int32 → Int32 → Option Int32) (Hk : ∀ (v1q : Int32) (v2q : Int32), k v1q v2q = some r → Go M_X12_bestAsking (some (aI r), h) 4 [some (aA v0), some (aI v1q), some (aI v2q)] [] h) (H : j_X12_bestAsking_35 v0 v2 s0 h k = some r) : Go M_X12_bestAsking (some (aI r), h) 35 [some (aA v0), none, some (aI v2)] [aI s0] h := by
  unfold j_X12_bestAsking_35 at H
  refine go_istoren (loc2 := [some (aA v0), some (aI s0), some (aI v2)]) dX12_bestAsking_35 rfl (by decide) rfl ?_
  refine go_iinc (v := (v2 + (1 : Int32))) (loc2 := [some (aA v0), some (aI s0), some (aI (v2 + (1 : Int32)))]) dX12_bestAsking_36 rfl rfl (by decide) rfl ?_
  refine go_goto (tgt := 4) dX12_bestAsking_39 (by decide) ?_
  exact Hk s0 (v2 + (1 : Int32)) H
def b_X12_bestAsking_4 (v0 : Nat) (h : Hp) (k : Int32 → Int32 → Option Int32) (v1 : Int32) (v2 : Int32) : Option Int32 :=
  (rc h v0 12 (m_X12_askedMany v0 h)).bind fun x1 => if x1 ≤ v2 then (some v1) else if v1 = (-1 : Int32) then j_X12_bestAsking_35 v0 v2 v2 h k else (rc h v0 12 (m_X12_versionsBy v0 v2 h)).bind fun x2 => (rc h v0 12 (m_X12_versionsBy v0 v1 h)).bind fun x3 => j_X12_bestAsking_35 v0 v2 (if x2 ≤ x3 then v1 else v2) h k
set_option maxRecDepth 20000 in
theorem okb_X12_bestAsking_4 {r : Int32} (v0 : Nat) (h : Hp) (k : Int32 → Int32 → Option Int32) (v1 : Int32) (v2 : Int32) (Hk : ∀ (v1q : Int32) (v2q : Int32), k v1q v2q = some r → Go M_X12_bestAsking (some (aI r), h) 4 [some (aA v0), some (aI v1q), some (aI v2q)] [] h) (H : b_X12_bestAsking_4 v0 h k v1 v2 = some r) : Go M_X12_bestAsking (some (aI r), h) 4 [some (aA v0), some (aI v1), some (aI v2)] [] h := by
  unfold b_X12_bestAsking_4 at H
  refine go_iloadn dX12_bestAsking_4 rfl ?_
  refine go_aloadn dX12_bestAsking_5 rfl ?_
  obtain ⟨c1, x1, ex1, H⟩ := gm_rc H
  refine go_callV (vs := []) (stk := [aI v2]) (o1 := (some (aI x1), h)) mk_X12_askedMany sv_X12_bestAsking_377 cl_X12 rfl dX12_bestAsking_6 c1 rfl rfl (Nat.le_of_ble_eq_true rfl) (Nat.le_of_ble_eq_true rfl) (ok_X12_askedMany ex1) (show Go M_X12_bestAsking (some (aI r), h) 9 [some (aA v0), some (aI v1), some (aI v2)] [aI x1, aI v2] h from ?_)
  refine go_icmp_ge (tgt := 42) dX12_bestAsking_9 (by decide) (fun c2 => ?_) (fun c2 => ?_)
  · replace H := (gm_ite H).1 c2
    refine go_iloadn dX12_bestAsking_42 rfl ?_
    obtain rfl := Option.some.inj H
    exact go_ireturn dX12_bestAsking_43 (tyI_int rfl)
  · replace H := (gm_ite H).2 c2
    refine go_iloadn dX12_bestAsking_12 rfl ?_
    refine go_iconst (v := (-1 : Int32)) dX12_bestAsking_13 rfl ?_
    refine go_icmp_eq (tgt := 30) dX12_bestAsking_14 (by decide) (fun c3 => ?_) (fun c3 => ?_)
    · replace H := (gm_ite H).1 c3
      refine go_iloadn dX12_bestAsking_30 rfl ?_
      refine go_goto (tgt := 35) dX12_bestAsking_31 (by decide) ?_
      refine go_mask [true, false, true] (loc' := [some (aA v0), none, some (aI v2)]) rfl ?_
      exact okj_X12_bestAsking_35 v0 v2 v2 h k Hk H
    · replace H := (gm_ite H).2 c3
      refine go_aloadn dX12_bestAsking_17 rfl ?_
      refine go_iloadn dX12_bestAsking_18 rfl ?_
      obtain ⟨c4, x2, ex2, H⟩ := gm_rc H
      refine go_callV (vs := [aI v2]) (stk := []) (o1 := (some (aI x2), h)) mk_X12_versionsBy sv_X12_bestAsking_416 cl_X12 rfl dX12_bestAsking_19 c4 rfl rfl (Nat.le_of_ble_eq_true rfl) (Nat.le_of_ble_eq_true rfl) (ok_X12_versionsBy ex2) (show Go M_X12_bestAsking (some (aI r), h) 22 [some (aA v0), some (aI v1), some (aI v2)] [aI x2] h from ?_)
      refine go_aloadn dX12_bestAsking_22 rfl ?_
      refine go_iloadn dX12_bestAsking_23 rfl ?_
      obtain ⟨c5, x3, ex3, H⟩ := gm_rc H
      refine go_callV (vs := [aI v1]) (stk := [aI x2]) (o1 := (some (aI x3), h)) mk_X12_versionsBy sv_X12_bestAsking_416 cl_X12 rfl dX12_bestAsking_24 c5 rfl rfl (Nat.le_of_ble_eq_true rfl) (Nat.le_of_ble_eq_true rfl) (ok_X12_versionsBy ex3) (show Go M_X12_bestAsking (some (aI r), h) 27 [some (aA v0), some (aI v1), some (aI v2)] [aI x3, aI x2] h from ?_)
      refine go_icmp_le (tgt := 34) dX12_bestAsking_27 (by decide) (fun c6 => ?_) (fun c6 => ?_)
      · rw [if_pos c6] at H
        refine go_iloadn dX12_bestAsking_34 rfl ?_
        refine go_mask [true, false, true] (loc' := [some (aA v0), none, some (aI v2)]) rfl ?_
        exact okj_X12_bestAsking_35 v0 v2 v1 h k Hk H
      · rw [if_neg c6] at H
        refine go_iloadn dX12_bestAsking_30 rfl ?_
        refine go_goto (tgt := 35) dX12_bestAsking_31 (by decide) ?_
        refine go_mask [true, false, true] (loc' := [some (aA v0), none, some (aI v2)]) rfl ?_
        exact okj_X12_bestAsking_35 v0 v2 v2 h k Hk H
def l_X12_bestAsking_4 (v0 : Nat) (h : Hp) (v1 : Int32) (v2 : Int32) : Option Int32 := loopK FUEL (fun (k : Int32 × Int32 → Option Int32) (s : Int32 × Int32) => b_X12_bestAsking_4 v0 h (fun v1q v2q => k (v1q, v2q)) s.1 s.2) (v1, v2)
theorem okl_X12_bestAsking_4 {r : Int32} (v0 : Nat) (h : Hp) (v1 : Int32) (v2 : Int32) (H : l_X12_bestAsking_4 v0 h v1 v2 = some r) : Go M_X12_bestAsking (some (aI r), h) 4 [some (aA v0), some (aI v1), some (aI v2)] [] h := by
  unfold l_X12_bestAsking_4 at H
  exact go_loop (σ := Int32 × Int32) (body := (fun (k : Int32 × Int32 → Option Int32) (s : Int32 × Int32) => b_X12_bestAsking_4 v0 h (fun v1q v2q => k (v1q, v2q)) s.1 s.2)) (fun s => [some (aA v0), some (aI s.1), some (aI s.2)]) (fun s => h) (fun k s Hk H => okb_X12_bestAsking_4 v0 h (fun v1q v2q => k (v1q, v2q)) s.1 s.2  (fun v1q v2q H => Hk (v1q, v2q) H) H) FUEL (v1, v2) H
def m_X12_bestAsking (v0 : Nat) (h : Hp) : Option Int32 :=
  l_X12_bestAsking_4 v0 h (-1 : Int32) (0 : Int32)
set_option maxRecDepth 20000 in
theorem ok_X12_bestAsking {r : Int32} {v0 : Nat} {h : Hp} (H : m_X12_bestAsking v0 h = some r) : Ev M_X12_bestAsking [aA v0] h (some (aI r), h) := by
  show Go M_X12_bestAsking (some (aI r), h) 0 [some (aA v0), none, none] [] h
  unfold m_X12_bestAsking at H
  refine go_iconst (v := (-1 : Int32)) dX12_bestAsking_0 rfl ?_
  refine go_istoren (loc2 := [some (aA v0), some (aI (-1 : Int32)), none]) dX12_bestAsking_1 rfl (by decide) rfl ?_
  refine go_iconst (v := (0 : Int32)) dX12_bestAsking_2 rfl ?_
  refine go_istoren (loc2 := [some (aA v0), some (aI (-1 : Int32)), some (aI (0 : Int32))]) dX12_bestAsking_3 rfl (by decide) rfl ?_
  exact okl_X12_bestAsking_4 v0 h (-1 : Int32) (0 : Int32) H
/-! X12_isWithin -/
def j_X12_isWithin_53 (v0 : Nat) (v1 : Int32) (v2 : Int32) (v4 : Int32) (s0 : Int32) (h : Hp) (K60 : Int32 → Option Int32) (k : Int32 → Int32 → Option Int32) : Option Int32 :=
  k s0 (v4 + (1 : Int32))
set_option maxRecDepth 20000 in
theorem okj_X12_isWithin_53 {r : Int32} (v0 : Nat) (v1 : Int32) (v2 : Int32) (v4 : Int32) (s0 : Int32) (h : Hp) (K60 : Int32 → Option Int32) (k : Int32 → Int32 → Option Int32) (HK60 : ∀ (v3q : Int32) , K60 v3q = some r → Go M_X12_isWithin (some (aI r), h) 60 [none, none, none, some (aI v3q), none] [] h) (Hk : ∀ (v3q : Int32) (v4q : Int32), k v3q v4q = some r → Go M_X12_isWithin (some (aI r), h) 5 [some (aA v0), some (aI v1), some (aI v2), some (aI v3q), some (aI v4q)] [] h) (H : j_X12_isWithin_53 v0 v1 v2 v4 s0 h K60 k = some r) : Go M_X12_isWithin (some (aI r), h) 53 [some (aA v0), some (aI v1), some (aI v2), none, some (aI v4)] [aI s0] h := by
  unfold j_X12_isWithin_53 at H
  refine go_istoren (loc2 := [some (aA v0), some (aI v1), some (aI v2), some (aI s0), some (aI v4)]) dX12_isWithin_53 rfl (by decide) rfl ?_
  refine go_iinc (v := (v4 + (1 : Int32))) (loc2 := [some (aA v0), some (aI v1), some (aI v2), some (aI s0), some (aI (v4 + (1 : Int32)))]) dX12_isWithin_54 rfl rfl (by decide) rfl ?_
  refine go_goto (tgt := 5) dX12_isWithin_57 (by decide) ?_
  exact Hk s0 (v4 + (1 : Int32)) H
def b_X12_isWithin_5 (v0 : Nat) (v1 : Int32) (v2 : Int32) (h : Hp) (K60 : Int32 → Option Int32) (k : Int32 → Int32 → Option Int32) (v3 : Int32) (v4 : Int32) : Option Int32 :=
  (gfR h v0 12 18).bind fun x1 => (alI h x1 (0 : Int32)).bind fun x2 => if x2 ≤ v4 then K60 v3 else if v3 = 0 then j_X12_isWithin_53 v0 v1 v2 v4 (0 : Int32) h K60 k else (gfR h v0 12 29).bind fun x3 => (alI h x3 (((4 : Int32) * v1) + v4)).bind fun x4 => (gfR h v0 12 29).bind fun x5 => (alI h x5 (((4 : Int32) * v2) + v4)).bind fun x6 => j_X12_isWithin_53 v0 v1 v2 v4 (if ¬ (x4 &&& (x6 ^^^ (-1 : Int32))) = 0 then (0 : Int32) else (1 : Int32)) h K60 k
set_option maxRecDepth 20000 in
theorem okb_X12_isWithin_5 {r : Int32} (v0 : Nat) (v1 : Int32) (v2 : Int32) (h : Hp) (K60 : Int32 → Option Int32) (k : Int32 → Int32 → Option Int32) (v3 : Int32) (v4 : Int32) (HK60 : ∀ (v3q : Int32) , K60 v3q = some r → Go M_X12_isWithin (some (aI r), h) 60 [none, none, none, some (aI v3q), none] [] h) (Hk : ∀ (v3q : Int32) (v4q : Int32), k v3q v4q = some r → Go M_X12_isWithin (some (aI r), h) 5 [some (aA v0), some (aI v1), some (aI v2), some (aI v3q), some (aI v4q)] [] h) (H : b_X12_isWithin_5 v0 v1 v2 h K60 k v3 v4 = some r) : Go M_X12_isWithin (some (aI r), h) 5 [some (aA v0), some (aI v1), some (aI v2), some (aI v3), some (aI v4)] [] h := by
  unfold b_X12_isWithin_5 at H
  refine go_iload dX12_isWithin_5 rfl ?_
  refine go_aloadn dX12_isWithin_7 rfl ?_
  refine gm_getR fd_X12_35 dX12_isWithin_8 H (fun x1 H => ?_)
  refine go_iconst (v := (0 : Int32)) dX12_isWithin_11 rfl ?_
  refine gm_iald dX12_isWithin_12 H (fun x2 H => ?_)
  refine go_icmp_ge (tgt := 60) dX12_isWithin_13 (by decide) (fun c1 => ?_) (fun c1 => ?_)
  · replace H := (gm_ite H).1 c1
    refine go_mask [false, false, false, true, false] (loc' := [none, none, none, some (aI v3), none]) rfl ?_
    exact HK60 v3 H
  · replace H := (gm_ite H).2 c1
    refine go_iloadn dX12_isWithin_16 rfl ?_
    refine go_if_eq (tgt := 52) dX12_isWithin_17 (by decide) (fun c2 => ?_) (fun c2 => ?_)
    · replace H := (gm_ite H).1 c2
      refine go_iconst (v := (0 : Int32)) dX12_isWithin_52 rfl ?_
      refine go_mask [true, true, true, false, true] (loc' := [some (aA v0), some (aI v1), some (aI v2), none, some (aI v4)]) rfl ?_
      exact okj_X12_isWithin_53 v0 v1 v2 v4 (0 : Int32) h K60 k HK60 Hk H
    · replace H := (gm_ite H).2 c2
      refine go_aloadn dX12_isWithin_20 rfl ?_
      refine gm_getR fd_X12_50 dX12_isWithin_21 H (fun x3 H => ?_)
      refine go_iconst (v := (4 : Int32)) dX12_isWithin_24 rfl ?_
      refine go_iloadn dX12_isWithin_25 rfl ?_
      refine go_imul dX12_isWithin_26 ?_
      refine go_iload dX12_isWithin_27 rfl ?_
      refine go_iadd dX12_isWithin_29 ?_
      refine gm_iald dX12_isWithin_30 H (fun x4 H => ?_)
      refine go_aloadn dX12_isWithin_31 rfl ?_
      refine gm_getR fd_X12_50 dX12_isWithin_32 H (fun x5 H => ?_)
      refine go_iconst (v := (4 : Int32)) dX12_isWithin_35 rfl ?_
      refine go_iloadn dX12_isWithin_36 rfl ?_
      refine go_imul dX12_isWithin_37 ?_
      refine go_iload dX12_isWithin_38 rfl ?_
      refine go_iadd dX12_isWithin_40 ?_
      refine gm_iald dX12_isWithin_41 H (fun x6 H => ?_)
      refine go_iconst (v := (-1 : Int32)) dX12_isWithin_42 rfl ?_
      refine go_ixor dX12_isWithin_43 ?_
      refine go_iand dX12_isWithin_44 ?_
      refine go_if_ne (tgt := 52) dX12_isWithin_45 (by decide) (fun c3 => ?_) (fun c3 => ?_)
      · rw [if_pos c3] at H
        refine go_iconst (v := (0 : Int32)) dX12_isWithin_52 rfl ?_
        refine go_mask [true, true, true, false, true] (loc' := [some (aA v0), some (aI v1), some (aI v2), none, some (aI v4)]) rfl ?_
        exact okj_X12_isWithin_53 v0 v1 v2 v4 (0 : Int32) h K60 k HK60 Hk H
      · rw [if_neg c3] at H
        refine go_iconst (v := (1 : Int32)) dX12_isWithin_48 rfl ?_
        refine go_goto (tgt := 53) dX12_isWithin_49 (by decide) ?_
        refine go_mask [true, true, true, false, true] (loc' := [some (aA v0), some (aI v1), some (aI v2), none, some (aI v4)]) rfl ?_
        exact okj_X12_isWithin_53 v0 v1 v2 v4 (1 : Int32) h K60 k HK60 Hk H
def l_X12_isWithin_5 (v0 : Nat) (v1 : Int32) (v2 : Int32) (h : Hp) (K60 : Int32 → Option Int32) (v3 : Int32) (v4 : Int32) : Option Int32 := loopK FUEL (fun (k : Int32 × Int32 → Option Int32) (s : Int32 × Int32) => b_X12_isWithin_5 v0 v1 v2 h K60 (fun v3q v4q => k (v3q, v4q)) s.1 s.2) (v3, v4)
theorem okl_X12_isWithin_5 {r : Int32} (v0 : Nat) (v1 : Int32) (v2 : Int32) (h : Hp) (K60 : Int32 → Option Int32) (v3 : Int32) (v4 : Int32) (HK60 : ∀ (v3q : Int32) , K60 v3q = some r → Go M_X12_isWithin (some (aI r), h) 60 [none, none, none, some (aI v3q), none] [] h) (H : l_X12_isWithin_5 v0 v1 v2 h K60 v3 v4 = some r) : Go M_X12_isWithin (some (aI r), h) 5 [some (aA v0), some (aI v1), some (aI v2), some (aI v3), some (aI v4)] [] h := by
  unfold l_X12_isWithin_5 at H
  exact go_loop (σ := Int32 × Int32) (body := (fun (k : Int32 × Int32 → Option Int32) (s : Int32 × Int32) => b_X12_isWithin_5 v0 v1 v2 h K60 (fun v3q v4q => k (v3q, v4q)) s.1 s.2)) (fun s => [some (aA v0), some (aI v1), some (aI v2), some (aI s.1), some (aI s.2)]) (fun s => h) (fun k s Hk H => okb_X12_isWithin_5 v0 v1 v2 h K60 (fun v3q v4q => k (v3q, v4q)) s.1 s.2 HK60 (fun v3q v4q H => Hk (v3q, v4q) H) H) FUEL (v3, v4) H
def j_X12_isWithin_60 (v3 : Int32)  (h : Hp) : Option Int32 :=
  (zb v3).bind fun x1 => some x1
set_option maxRecDepth 20000 in
theorem okj_X12_isWithin_60 {r : Int32} (v3 : Int32)  (h : Hp) (H : j_X12_isWithin_60 v3 h = some r) : Go M_X12_isWithin (some (aI r), h) 60 [none, none, none, some (aI v3), none] [] h := by
  unfold j_X12_isWithin_60 at H
  refine go_iloadn dX12_isWithin_60 rfl ?_
  obtain ⟨hz, H⟩ := gm_zb H
  obtain rfl := Option.some.inj H
  exact go_ireturn (x := v3) dX12_isWithin_61 (tyI_bool rfl hz)
def m_X12_isWithin (v0 : Nat) (v1 : Int32) (v2 : Int32) (h : Hp) : Option Int32 :=
  l_X12_isWithin_5 v0 v1 v2 h (fun a1_3 => j_X12_isWithin_60 a1_3 h) (1 : Int32) (0 : Int32)
set_option maxRecDepth 20000 in
theorem ok_X12_isWithin {r : Int32} {v0 : Nat} {v1 : Int32} {v2 : Int32} {h : Hp} (H : m_X12_isWithin v0 v1 v2 h = some r) : Ev M_X12_isWithin [aA v0, aI v1, aI v2] h (some (aI r), h) := by
  show Go M_X12_isWithin (some (aI r), h) 0 [some (aA v0), some (aI v1), some (aI v2), none, none] [] h
  unfold m_X12_isWithin at H
  refine go_iconst (v := (1 : Int32)) dX12_isWithin_0 rfl ?_
  refine go_istoren (loc2 := [some (aA v0), some (aI v1), some (aI v2), some (aI (1 : Int32)), none]) dX12_isWithin_1 rfl (by decide) rfl ?_
  refine go_iconst (v := (0 : Int32)) dX12_isWithin_2 rfl ?_
  refine go_istore (loc2 := [some (aA v0), some (aI v1), some (aI v2), some (aI (1 : Int32)), some (aI (0 : Int32))]) dX12_isWithin_3 (by decide) rfl ?_
  refine okl_X12_isWithin_5 v0 v1 v2 h (fun a1_3 => j_X12_isWithin_60 a1_3 h) (1 : Int32) (0 : Int32) ?_ H
  · intro a1_3 H
    exact okj_X12_isWithin_60 a1_3 h  H
/-! X12_samePairs -/
def j_X12_samePairs_43 (v0 : Nat) (v2 : Int32) (v3 : Int32) (s0 : Int32) (s1 : Int32) (h : Hp) (K51 : Int32 → Option Int32) (k : Int32 → Int32 → Option Int32) : Option Int32 :=
  k (s0 + s1) (v3 + (1 : Int32))
set_option maxRecDepth 20000 in
theorem okj_X12_samePairs_43 {r : Int32} (v0 : Nat) (v2 : Int32) (v3 : Int32) (s0 : Int32) (s1 : Int32) (h : Hp) (K51 : Int32 → Option Int32) (k : Int32 → Int32 → Option Int32) (HK51 : ∀ (v1q : Int32) , K51 v1q = some r → Go M_X12_samePairs (some (aI r), h) 51 [some (aA v0), some (aI v1q), some (aI v2), none] [] h) (Hk : ∀ (v1q : Int32) (v3q : Int32), k v1q v3q = some r → Go M_X12_samePairs (some (aI r), h) 14 [some (aA v0), some (aI v1q), some (aI v2), some (aI v3q)] [] h) (H : j_X12_samePairs_43 v0 v2 v3 s0 s1 h K51 k = some r) : Go M_X12_samePairs (some (aI r), h) 43 [some (aA v0), none, some (aI v2), some (aI v3)] [aI s1, aI s0] h := by
  unfold j_X12_samePairs_43 at H
  refine go_iadd dX12_samePairs_43 ?_
  refine go_istoren (loc2 := [some (aA v0), some (aI (s0 + s1)), some (aI v2), some (aI v3)]) dX12_samePairs_44 rfl (by decide) rfl ?_
  refine go_iinc (v := (v3 + (1 : Int32))) (loc2 := [some (aA v0), some (aI (s0 + s1)), some (aI v2), some (aI (v3 + (1 : Int32)))]) dX12_samePairs_45 rfl rfl (by decide) rfl ?_
  refine go_goto (tgt := 14) dX12_samePairs_48 (by decide) ?_
  exact Hk (s0 + s1) (v3 + (1 : Int32)) H
def b_X12_samePairs_14 (v0 : Nat) (v2 : Int32) (h : Hp) (K51 : Int32 → Option Int32) (k : Int32 → Int32 → Option Int32) (v1 : Int32) (v3 : Int32) : Option Int32 :=
  if v2 ≤ v3 then K51 v1 else (rc h v0 12 (m_X12_isWithin v0 v2 v3 h)).bind fun x1 => if x1 = 0 then j_X12_samePairs_43 v0 v2 v3 v1 (0 : Int32) h K51 k else (rc h v0 12 (m_X12_isWithin v0 v3 v2 h)).bind fun x2 => j_X12_samePairs_43 v0 v2 v3 v1 (if x2 = 0 then (0 : Int32) else (1 : Int32)) h K51 k
set_option maxRecDepth 20000 in
theorem okb_X12_samePairs_14 {r : Int32} (v0 : Nat) (v2 : Int32) (h : Hp) (K51 : Int32 → Option Int32) (k : Int32 → Int32 → Option Int32) (v1 : Int32) (v3 : Int32) (HK51 : ∀ (v1q : Int32) , K51 v1q = some r → Go M_X12_samePairs (some (aI r), h) 51 [some (aA v0), some (aI v1q), some (aI v2), none] [] h) (Hk : ∀ (v1q : Int32) (v3q : Int32), k v1q v3q = some r → Go M_X12_samePairs (some (aI r), h) 14 [some (aA v0), some (aI v1q), some (aI v2), some (aI v3q)] [] h) (H : b_X12_samePairs_14 v0 v2 h K51 k v1 v3 = some r) : Go M_X12_samePairs (some (aI r), h) 14 [some (aA v0), some (aI v1), some (aI v2), some (aI v3)] [] h := by
  unfold b_X12_samePairs_14 at H
  refine go_iloadn dX12_samePairs_14 rfl ?_
  refine go_iloadn dX12_samePairs_15 rfl ?_
  refine go_icmp_ge (tgt := 51) dX12_samePairs_16 (by decide) (fun c1 => ?_) (fun c1 => ?_)
  · replace H := (gm_ite H).1 c1
    refine go_mask [true, true, true, false] (loc' := [some (aA v0), some (aI v1), some (aI v2), none]) rfl ?_
    exact HK51 v1 H
  · replace H := (gm_ite H).2 c1
    refine go_iloadn dX12_samePairs_19 rfl ?_
    refine go_aloadn dX12_samePairs_20 rfl ?_
    refine go_iloadn dX12_samePairs_21 rfl ?_
    refine go_iloadn dX12_samePairs_22 rfl ?_
    obtain ⟨c2, x1, ex1, H⟩ := gm_rc H
    refine go_callV (vs := [aI v2, aI v3]) (stk := [aI v1]) (o1 := (some (aI x1), h)) mk_X12_isWithin sv_X12_samePairs_419 cl_X12 rfl dX12_samePairs_23 c2 rfl rfl (Nat.le_of_ble_eq_true rfl) (Nat.le_of_ble_eq_true rfl) (ok_X12_isWithin ex1) (show Go M_X12_samePairs (some (aI r), h) 26 [some (aA v0), some (aI v1), some (aI v2), some (aI v3)] [aI x1, aI v1] h from ?_)
    refine go_if_eq (tgt := 42) dX12_samePairs_26 (by decide) (fun c3 => ?_) (fun c3 => ?_)
    · replace H := (gm_ite H).1 c3
      refine go_iconst (v := (0 : Int32)) dX12_samePairs_42 rfl ?_
      refine go_mask [true, false, true, true] (loc' := [some (aA v0), none, some (aI v2), some (aI v3)]) rfl ?_
      exact okj_X12_samePairs_43 v0 v2 v3 v1 (0 : Int32) h K51 k HK51 Hk H
    · replace H := (gm_ite H).2 c3
      refine go_aloadn dX12_samePairs_29 rfl ?_
      refine go_iloadn dX12_samePairs_30 rfl ?_
      refine go_iloadn dX12_samePairs_31 rfl ?_
      obtain ⟨c4, x2, ex2, H⟩ := gm_rc H
      refine go_callV (vs := [aI v3, aI v2]) (stk := [aI v1]) (o1 := (some (aI x2), h)) mk_X12_isWithin sv_X12_samePairs_419 cl_X12 rfl dX12_samePairs_32 c4 rfl rfl (Nat.le_of_ble_eq_true rfl) (Nat.le_of_ble_eq_true rfl) (ok_X12_isWithin ex2) (show Go M_X12_samePairs (some (aI r), h) 35 [some (aA v0), some (aI v1), some (aI v2), some (aI v3)] [aI x2, aI v1] h from ?_)
      refine go_if_eq (tgt := 42) dX12_samePairs_35 (by decide) (fun c5 => ?_) (fun c5 => ?_)
      · rw [if_pos c5] at H
        refine go_iconst (v := (0 : Int32)) dX12_samePairs_42 rfl ?_
        refine go_mask [true, false, true, true] (loc' := [some (aA v0), none, some (aI v2), some (aI v3)]) rfl ?_
        exact okj_X12_samePairs_43 v0 v2 v3 v1 (0 : Int32) h K51 k HK51 Hk H
      · rw [if_neg c5] at H
        refine go_iconst (v := (1 : Int32)) dX12_samePairs_38 rfl ?_
        refine go_goto (tgt := 43) dX12_samePairs_39 (by decide) ?_
        refine go_mask [true, false, true, true] (loc' := [some (aA v0), none, some (aI v2), some (aI v3)]) rfl ?_
        exact okj_X12_samePairs_43 v0 v2 v3 v1 (1 : Int32) h K51 k HK51 Hk H
def l_X12_samePairs_14 (v0 : Nat) (v2 : Int32) (h : Hp) (K51 : Int32 → Option Int32) (v1 : Int32) (v3 : Int32) : Option Int32 := loopK FUEL (fun (k : Int32 × Int32 → Option Int32) (s : Int32 × Int32) => b_X12_samePairs_14 v0 v2 h K51 (fun v1q v3q => k (v1q, v3q)) s.1 s.2) (v1, v3)
theorem okl_X12_samePairs_14 {r : Int32} (v0 : Nat) (v2 : Int32) (h : Hp) (K51 : Int32 → Option Int32) (v1 : Int32) (v3 : Int32) (HK51 : ∀ (v1q : Int32) , K51 v1q = some r → Go M_X12_samePairs (some (aI r), h) 51 [some (aA v0), some (aI v1q), some (aI v2), none] [] h) (H : l_X12_samePairs_14 v0 v2 h K51 v1 v3 = some r) : Go M_X12_samePairs (some (aI r), h) 14 [some (aA v0), some (aI v1), some (aI v2), some (aI v3)] [] h := by
  unfold l_X12_samePairs_14 at H
  exact go_loop (σ := Int32 × Int32) (body := (fun (k : Int32 × Int32 → Option Int32) (s : Int32 × Int32) => b_X12_samePairs_14 v0 v2 h K51 (fun v1q v3q => k (v1q, v3q)) s.1 s.2)) (fun s => [some (aA v0), some (aI s.1), some (aI v2), some (aI s.2)]) (fun s => h) (fun k s Hk H => okb_X12_samePairs_14 v0 v2 h K51 (fun v1q v3q => k (v1q, v3q)) s.1 s.2 HK51 (fun v1q v3q H => Hk (v1q, v3q) H) H) FUEL (v1, v3) H
def j_X12_samePairs_51 (v0 : Nat) (v1 : Int32) (v2 : Int32)  (h : Hp) (k : Int32 → Int32 → Option Int32) : Option Int32 :=
  k v1 (v2 + (1 : Int32))
set_option maxRecDepth 20000 in
theorem okj_X12_samePairs_51 {r : Int32} (v0 : Nat) (v1 : Int32) (v2 : Int32)  (h : Hp) (k : Int32 → Int32 → Option Int32) (Hk : ∀ (v1q : Int32) (v2q : Int32), k v1q v2q = some r → Go M_X12_samePairs (some (aI r), h) 4 [some (aA v0), some (aI v1q), some (aI v2q), none] [] h) (H : j_X12_samePairs_51 v0 v1 v2 h k = some r) : Go M_X12_samePairs (some (aI r), h) 51 [some (aA v0), some (aI v1), some (aI v2), none] [] h := by
  unfold j_X12_samePairs_51 at H
  refine go_iinc (v := (v2 + (1 : Int32))) (loc2 := [some (aA v0), some (aI v1), some (aI (v2 + (1 : Int32))), none]) dX12_samePairs_51 rfl rfl (by decide) rfl ?_
  refine go_goto (tgt := 4) dX12_samePairs_54 (by decide) ?_
  exact Hk v1 (v2 + (1 : Int32)) H
def b_X12_samePairs_4 (v0 : Nat) (h : Hp) (k : Int32 → Int32 → Option Int32) (v1 : Int32) (v2 : Int32) : Option Int32 :=
  (rc h v0 12 (m_X12_askedMany v0 h)).bind fun x1 => if x1 ≤ v2 then (some v1) else l_X12_samePairs_14 v0 v2 h (fun a2_1 => j_X12_samePairs_51 v0 a2_1 v2 h k) v1 (0 : Int32)
set_option maxRecDepth 20000 in
theorem okb_X12_samePairs_4 {r : Int32} (v0 : Nat) (h : Hp) (k : Int32 → Int32 → Option Int32) (v1 : Int32) (v2 : Int32) (Hk : ∀ (v1q : Int32) (v2q : Int32), k v1q v2q = some r → Go M_X12_samePairs (some (aI r), h) 4 [some (aA v0), some (aI v1q), some (aI v2q), none] [] h) (H : b_X12_samePairs_4 v0 h k v1 v2 = some r) : Go M_X12_samePairs (some (aI r), h) 4 [some (aA v0), some (aI v1), some (aI v2), none] [] h := by
  unfold b_X12_samePairs_4 at H
  refine go_iloadn dX12_samePairs_4 rfl ?_
  refine go_aloadn dX12_samePairs_5 rfl ?_
  obtain ⟨c1, x1, ex1, H⟩ := gm_rc H
  refine go_callV (vs := []) (stk := [aI v2]) (o1 := (some (aI x1), h)) mk_X12_askedMany sv_X12_samePairs_377 cl_X12 rfl dX12_samePairs_6 c1 rfl rfl (Nat.le_of_ble_eq_true rfl) (Nat.le_of_ble_eq_true rfl) (ok_X12_askedMany ex1) (show Go M_X12_samePairs (some (aI r), h) 9 [some (aA v0), some (aI v1), some (aI v2), none] [aI x1, aI v2] h from ?_)
  refine go_icmp_ge (tgt := 57) dX12_samePairs_9 (by decide) (fun c2 => ?_) (fun c2 => ?_)
  · replace H := (gm_ite H).1 c2
    refine go_iloadn dX12_samePairs_57 rfl ?_
    obtain rfl := Option.some.inj H
    exact go_ireturn dX12_samePairs_58 (tyI_int rfl)
  · replace H := (gm_ite H).2 c2
    refine go_iconst (v := (0 : Int32)) dX12_samePairs_12 rfl ?_
    refine go_istoren (loc2 := [some (aA v0), some (aI v1), some (aI v2), some (aI (0 : Int32))]) dX12_samePairs_13 rfl (by decide) rfl ?_
    refine okl_X12_samePairs_14 v0 v2 h (fun a2_1 => j_X12_samePairs_51 v0 a2_1 v2 h k) v1 (0 : Int32) ?_ H
    · intro a2_1 H
      exact okj_X12_samePairs_51 v0 a2_1 v2 h k Hk H
def l_X12_samePairs_4 (v0 : Nat) (h : Hp) (v1 : Int32) (v2 : Int32) : Option Int32 := loopK FUEL (fun (k : Int32 × Int32 → Option Int32) (s : Int32 × Int32) => b_X12_samePairs_4 v0 h (fun v1q v2q => k (v1q, v2q)) s.1 s.2) (v1, v2)
theorem okl_X12_samePairs_4 {r : Int32} (v0 : Nat) (h : Hp) (v1 : Int32) (v2 : Int32) (H : l_X12_samePairs_4 v0 h v1 v2 = some r) : Go M_X12_samePairs (some (aI r), h) 4 [some (aA v0), some (aI v1), some (aI v2), none] [] h := by
  unfold l_X12_samePairs_4 at H
  exact go_loop (σ := Int32 × Int32) (body := (fun (k : Int32 × Int32 → Option Int32) (s : Int32 × Int32) => b_X12_samePairs_4 v0 h (fun v1q v2q => k (v1q, v2q)) s.1 s.2)) (fun s => [some (aA v0), some (aI s.1), some (aI s.2), none]) (fun s => h) (fun k s Hk H => okb_X12_samePairs_4 v0 h (fun v1q v2q => k (v1q, v2q)) s.1 s.2  (fun v1q v2q H => Hk (v1q, v2q) H) H) FUEL (v1, v2) H
def m_X12_samePairs (v0 : Nat) (h : Hp) : Option Int32 :=
  l_X12_samePairs_4 v0 h (0 : Int32) (0 : Int32)
set_option maxRecDepth 20000 in
theorem ok_X12_samePairs {r : Int32} {v0 : Nat} {h : Hp} (H : m_X12_samePairs v0 h = some r) : Ev M_X12_samePairs [aA v0] h (some (aI r), h) := by
  show Go M_X12_samePairs (some (aI r), h) 0 [some (aA v0), none, none, none] [] h
  unfold m_X12_samePairs at H
  refine go_iconst (v := (0 : Int32)) dX12_samePairs_0 rfl ?_
  refine go_istoren (loc2 := [some (aA v0), some (aI (0 : Int32)), none, none]) dX12_samePairs_1 rfl (by decide) rfl ?_
  refine go_iconst (v := (0 : Int32)) dX12_samePairs_2 rfl ?_
  refine go_istoren (loc2 := [some (aA v0), some (aI (0 : Int32)), some (aI (0 : Int32)), none]) dX12_samePairs_3 rfl (by decide) rfl ?_
  exact okl_X12_samePairs_4 v0 h (0 : Int32) (0 : Int32) H
/-! X12_best -/
def j_X12_best_42  (s0 : Int32) (h : Hp) : Option (Int32 × Hp) :=
  some (s0, h)
set_option maxRecDepth 20000 in
theorem okj_X12_best_42 {r : (Int32 × Hp)}  (s0 : Int32) (h : Hp) (H : j_X12_best_42 s0 h = some r) : Go M_X12_best (some (aI r.1), r.2) 42 [none, none, none, none] [aI s0] h := by
  unfold j_X12_best_42 at H
  obtain rfl := Option.some.inj H
  exact go_ireturn dX12_best_42 (tyI_int rfl)
def m_X12_best (v0 : Nat) (v1 : Int32) (v2 : Int32) (v3 : Int32) (h : Hp) : Option (Int32 × Hp) :=
  (pfI h v0 12 0 (0 : Int32)).bind fun hh1 => (rc hh1 v0 12 (m_X12_layHeld v0 v1 v2 hh1)).bind fun x1 => if ¬ x1.1 = 0 then (if ¬ v3 = 0 then (if ¬ v3 = (1 : Int32) then j_X12_best_42 (-2 : Int32) x1.2 else (rc x1.2 v0 12 (m_X12_samePairs v0 x1.2)).bind fun x2 => j_X12_best_42 x2 x1.2) else (rc x1.2 v0 12 (m_X12_bestAsking v0 x1.2)).bind fun x3 => j_X12_best_42 x3 x1.2) else some ((-2 : Int32), x1.2)
set_option maxRecDepth 20000 in
theorem ok_X12_best {r : (Int32 × Hp)} {v0 : Nat} {v1 : Int32} {v2 : Int32} {v3 : Int32} {h : Hp} (H : m_X12_best v0 v1 v2 v3 h = some r) : Ev M_X12_best [aA v0, aI v1, aI v2, aI v3] h (some (aI r.1), r.2) := by
  show Go M_X12_best (some (aI r.1), r.2) 0 [some (aA v0), some (aI v1), some (aI v2), some (aI v3)] [] h
  unfold m_X12_best at H
  refine go_aloadn dX12_best_0 rfl ?_
  refine go_iconst (v := (0 : Int32)) dX12_best_1 rfl ?_
  refine gm_putI fd_X12_60 (Or.inl rfl) dX12_best_2 H (fun hh1 H => ?_)
  refine go_aloadn dX12_best_5 rfl ?_
  refine go_iloadn dX12_best_6 rfl ?_
  refine go_iloadn dX12_best_7 rfl ?_
  obtain ⟨c1, x1, ex1, H⟩ := gm_rc H
  refine go_callV (vs := [aI v1, aI v2]) (stk := []) (o1 := (some (aI x1.1), x1.2)) mk_X12_layHeld sv_X12_best_395 cl_X12 rfl dX12_best_8 c1 rfl rfl (Nat.le_of_ble_eq_true rfl) (Nat.le_of_ble_eq_true rfl) (ok_X12_layHeld ex1) (show Go M_X12_best (some (aI r.1), r.2) 11 [some (aA v0), some (aI v1), some (aI v2), some (aI v3)] [aI x1.1] x1.2 from ?_)
  refine go_if_ne (tgt := 17) dX12_best_11 (by decide) (fun c2 => ?_) (fun c2 => ?_)
  · replace H := (gm_ite H).1 c2
    refine go_iloadn dX12_best_17 rfl ?_
    refine go_if_ne (tgt := 28) dX12_best_18 (by decide) (fun c3 => ?_) (fun c3 => ?_)
    · replace H := (gm_ite H).1 c3
      refine go_iloadn dX12_best_28 rfl ?_
      refine go_iconst (v := (1 : Int32)) dX12_best_29 rfl ?_
      refine go_icmp_ne (tgt := 40) dX12_best_30 (by decide) (fun c4 => ?_) (fun c4 => ?_)
      · replace H := (gm_ite H).1 c4
        refine go_bipush (v := (-2 : Int32)) dX12_best_40 rfl ?_
        refine go_mask [false, false, false, false] (loc' := [none, none, none, none]) rfl ?_
        exact okj_X12_best_42 (-2 : Int32) x1.2  H
      · replace H := (gm_ite H).2 c4
        refine go_aloadn dX12_best_33 rfl ?_
        obtain ⟨c5, x2, ex2, H⟩ := gm_rc H
        refine go_callV (vs := []) (stk := []) (o1 := (some (aI x2), x1.2)) mk_X12_samePairs sv_X12_best_425 cl_X12 rfl dX12_best_34 c5 rfl rfl (Nat.le_of_ble_eq_true rfl) (Nat.le_of_ble_eq_true rfl) (ok_X12_samePairs ex2) (show Go M_X12_best (some (aI r.1), r.2) 37 [some (aA v0), some (aI v1), some (aI v2), some (aI v3)] [aI x2] x1.2 from ?_)
        refine go_goto (tgt := 42) dX12_best_37 (by decide) ?_
        refine go_mask [false, false, false, false] (loc' := [none, none, none, none]) rfl ?_
        exact okj_X12_best_42 x2 x1.2  H
    · replace H := (gm_ite H).2 c3
      refine go_aloadn dX12_best_21 rfl ?_
      obtain ⟨c6, x3, ex3, H⟩ := gm_rc H
      refine go_callV (vs := []) (stk := []) (o1 := (some (aI x3), x1.2)) mk_X12_bestAsking sv_X12_best_422 cl_X12 rfl dX12_best_22 c6 rfl rfl (Nat.le_of_ble_eq_true rfl) (Nat.le_of_ble_eq_true rfl) (ok_X12_bestAsking ex3) (show Go M_X12_best (some (aI r.1), r.2) 25 [some (aA v0), some (aI v1), some (aI v2), some (aI v3)] [aI x3] x1.2 from ?_)
      refine go_goto (tgt := 42) dX12_best_25 (by decide) ?_
      refine go_mask [false, false, false, false] (loc' := [none, none, none, none]) rfl ?_
      exact okj_X12_best_42 x3 x1.2  H
  · replace H := (gm_ite H).2 c2
    refine go_bipush (v := (-2 : Int32)) dX12_best_14 rfl ?_
    obtain rfl := Option.some.inj H
    exact go_ireturn dX12_best_16 (tyI_int rfl)
/-! X11_implies -/
def j_X11_implies_88  (s0 : Int32) (h : Hp) : Option (Int32 × Hp) :=
  some (s0, h)
set_option maxRecDepth 20000 in
theorem okj_X11_implies_88 {r : (Int32 × Hp)}  (s0 : Int32) (h : Hp) (H : j_X11_implies_88 s0 h = some r) : Go M_X11_implies (some (aI r.1), r.2) 88 [none, none, none, none, none, none, none] [aI s0] h := by
  unfold j_X11_implies_88 at H
  obtain rfl := Option.some.inj H
  exact go_ireturn dX11_implies_88 (tyI_int rfl)
def m_X11_implies (v0 : Nat) (v1 : Int32) (v2 : Int32) (v3 : Int32) (v4 : Int32) (h : Hp) : Option (Int32 × Hp) :=
  (gfR h v0 11 0).bind fun x1 => (rc h x1 9 (m_X9_archiveAt x1 v1 h)).bind fun x2 => (gfR h v0 11 0).bind fun x3 => (rc h x3 9 (m_X9_questionsAt x3 v2 h)).bind fun x4 => (nz x2).bind fun _ => if x2 = 0 then (some ((-1 : Int32), h)) else (nz x4).bind fun _ => if x4 = 0 then (some ((-1 : Int32), h)) else (rc h x4 6 (m_X6_has x4 v3 h)).bind fun x5 => if x5 = 0 then (some ((-1 : Int32), h)) else (rc h x4 6 (m_X6_has x4 v4 h)).bind fun x6 => if ¬ x6 = 0 then ((gfR h v0 11 4).bind fun x7 => (m_J9_max_7cf53 v3 v4 h).bind fun x8 => (rc h x7 8 (m_X8_look x7 x2 x4 x8 h)).bind fun x9 => (gfR x9 v0 11 4).bind fun x10 => (rc x9 x10 8 (m_X8_within x10 x2 v3 v4 x9)).bind fun x11 => j_X11_implies_88 (if x11 = 0 then (0 : Int32) else (1 : Int32)) x9) else some ((-1 : Int32), h)
set_option maxRecDepth 20000 in
theorem ok_X11_implies {r : (Int32 × Hp)} {v0 : Nat} {v1 : Int32} {v2 : Int32} {v3 : Int32} {v4 : Int32} {h : Hp} (H : m_X11_implies v0 v1 v2 v3 v4 h = some r) : Ev M_X11_implies [aA v0, aI v1, aI v2, aI v3, aI v4] h (some (aI r.1), r.2) := by
  show Go M_X11_implies (some (aI r.1), r.2) 0 [some (aA v0), some (aI v1), some (aI v2), some (aI v3), some (aI v4), none, none] [] h
  unfold m_X11_implies at H
  refine go_aloadn dX11_implies_0 rfl ?_
  refine gm_getR fd_X11_10 dX11_implies_1 H (fun x1 H => ?_)
  refine go_iloadn dX11_implies_4 rfl ?_
  obtain ⟨c1, x2, ex2, H⟩ := gm_rc H
  refine go_callV (vs := [aI v1]) (stk := []) (o1 := (some (aA x2), h)) mk_X9_archiveAt sv_X11_implies_86 cl_X9 rfl dX11_implies_5 c1 rfl rfl (Nat.le_of_ble_eq_true rfl) (Nat.le_of_ble_eq_true rfl) (ok_X9_archiveAt ex2) (show Go M_X11_implies (some (aI r.1), r.2) 8 [some (aA v0), some (aI v1), some (aI v2), some (aI v3), some (aI v4), none, none] [aA x2] h from ?_)
  refine go_astore (loc2 := [some (aA v0), some (aI v1), some (aI v2), some (aI v3), some (aI v4), some (aA x2), none]) dX11_implies_8 (by decide) rfl ?_
  refine go_aloadn dX11_implies_10 rfl ?_
  refine gm_getR fd_X11_10 dX11_implies_11 H (fun x3 H => ?_)
  refine go_iloadn dX11_implies_14 rfl ?_
  obtain ⟨c2, x4, ex4, H⟩ := gm_rc H
  refine go_callV (vs := [aI v2]) (stk := []) (o1 := (some (aA x4), h)) mk_X9_questionsAt sv_X11_implies_231 cl_X9 rfl dX11_implies_15 c2 rfl rfl (Nat.le_of_ble_eq_true rfl) (Nat.le_of_ble_eq_true rfl) (ok_X9_questionsAt ex4) (show Go M_X11_implies (some (aI r.1), r.2) 18 [some (aA v0), some (aI v1), some (aI v2), some (aI v3), some (aI v4), some (aA x2), none] [aA x4] h from ?_)
  refine go_astore (loc2 := [some (aA v0), some (aI v1), some (aI v2), some (aI v3), some (aI v4), some (aA x2), some (aA x4)]) dX11_implies_18 (by decide) rfl ?_
  refine go_aload dX11_implies_20 rfl ?_
  obtain ⟨c4, H⟩ := gm_nz H
  refine go_ifnull (tgt := 49) dX11_implies_22 (by decide) c4 (fun c3 => ?_) (fun c3 => ?_)
  · replace H := (gm_ite H).1 c3
    refine go_iconst (v := (-1 : Int32)) dX11_implies_49 rfl ?_
    obtain rfl := Option.some.inj H
    exact go_ireturn dX11_implies_50 (tyI_int rfl)
  · replace H := (gm_ite H).2 c3
    refine go_aload dX11_implies_25 rfl ?_
    obtain ⟨c6, H⟩ := gm_nz H
    refine go_ifnull (tgt := 49) dX11_implies_27 (by decide) c6 (fun c5 => ?_) (fun c5 => ?_)
    · replace H := (gm_ite H).1 c5
      refine go_iconst (v := (-1 : Int32)) dX11_implies_49 rfl ?_
      obtain rfl := Option.some.inj H
      exact go_ireturn dX11_implies_50 (tyI_int rfl)
    · replace H := (gm_ite H).2 c5
      refine go_aload dX11_implies_30 rfl ?_
      refine go_iloadn dX11_implies_32 rfl ?_
      obtain ⟨c7, x5, ex5, H⟩ := gm_rc H
      refine go_callV (vs := [aI v3]) (stk := []) (o1 := (some (aI x5), h)) mk_X6_has sv_X11_implies_239 cl_X6 rfl dX11_implies_33 c7 rfl rfl (Nat.le_of_ble_eq_true rfl) (Nat.le_of_ble_eq_true rfl) (ok_X6_has ex5) (show Go M_X11_implies (some (aI r.1), r.2) 36 [some (aA v0), some (aI v1), some (aI v2), some (aI v3), some (aI v4), some (aA x2), some (aA x4)] [aI x5] h from ?_)
      refine go_if_eq (tgt := 49) dX11_implies_36 (by decide) (fun c8 => ?_) (fun c8 => ?_)
      · replace H := (gm_ite H).1 c8
        refine go_iconst (v := (-1 : Int32)) dX11_implies_49 rfl ?_
        obtain rfl := Option.some.inj H
        exact go_ireturn dX11_implies_50 (tyI_int rfl)
      · replace H := (gm_ite H).2 c8
        refine go_aload dX11_implies_39 rfl ?_
        refine go_iload dX11_implies_41 rfl ?_
        obtain ⟨c9, x6, ex6, H⟩ := gm_rc H
        refine go_callV (vs := [aI v4]) (stk := []) (o1 := (some (aI x6), h)) mk_X6_has sv_X11_implies_239 cl_X6 rfl dX11_implies_43 c9 rfl rfl (Nat.le_of_ble_eq_true rfl) (Nat.le_of_ble_eq_true rfl) (ok_X6_has ex6) (show Go M_X11_implies (some (aI r.1), r.2) 46 [some (aA v0), some (aI v1), some (aI v2), some (aI v3), some (aI v4), some (aA x2), some (aA x4)] [aI x6] h from ?_)
        refine go_if_ne (tgt := 51) dX11_implies_46 (by decide) (fun c10 => ?_) (fun c10 => ?_)
        · replace H := (gm_ite H).1 c10
          refine go_aloadn dX11_implies_51 rfl ?_
          refine gm_getR fd_X11_37 dX11_implies_52 H (fun x7 H => ?_)
          refine go_aload dX11_implies_55 rfl ?_
          refine go_aload dX11_implies_57 rfl ?_
          refine go_iloadn dX11_implies_59 rfl ?_
          refine go_iload dX11_implies_60 rfl ?_
          obtain ⟨x8, ex8, H⟩ := bind_some H
          refine go_callS (vs := [aI v3, aI v4]) (stk := [aA x4, aA x2, aA x7]) (o1 := (some (aI x8), h)) mk_J9_max_7cf53 ss_X11_implies_302 dX11_implies_62 rfl rfl (Nat.le_of_ble_eq_true rfl) (Nat.le_of_ble_eq_true rfl) (ok_J9_max_7cf53 ex8) (show Go M_X11_implies (some (aI r.1), r.2) 65 [some (aA v0), some (aI v1), some (aI v2), some (aI v3), some (aI v4), some (aA x2), some (aA x4)] [aI x8, aA x4, aA x2, aA x7] h from ?_)
          obtain ⟨c12, x9, ex9, H⟩ := gm_rc H
          refine go_callV (vs := [aA x2, aA x4, aI x8]) (stk := []) (o1 := (none, x9)) mk_X8_look sv_X11_implies_254 cl_X8 rfl dX11_implies_65 c12 rfl rfl (Nat.le_of_ble_eq_true rfl) (Nat.le_of_ble_eq_true rfl) (ok_X8_look ex9) (show Go M_X11_implies (some (aI r.1), r.2) 68 [some (aA v0), some (aI v1), some (aI v2), some (aI v3), some (aI v4), some (aA x2), some (aA x4)] [] x9 from ?_)
          refine go_aloadn dX11_implies_68 rfl ?_
          refine gm_getR fd_X11_37 dX11_implies_69 H (fun x10 H => ?_)
          refine go_aload dX11_implies_72 rfl ?_
          refine go_iloadn dX11_implies_74 rfl ?_
          refine go_iload dX11_implies_75 rfl ?_
          obtain ⟨c13, x11, ex11, H⟩ := gm_rc H
          refine go_callV (vs := [aA x2, aI v3, aI v4]) (stk := []) (o1 := (some (aI x11), x9)) mk_X8_within sv_X11_implies_307 cl_X8 rfl dX11_implies_77 c13 rfl rfl (Nat.le_of_ble_eq_true rfl) (Nat.le_of_ble_eq_true rfl) (ok_X8_within ex11) (show Go M_X11_implies (some (aI r.1), r.2) 80 [some (aA v0), some (aI v1), some (aI v2), some (aI v3), some (aI v4), some (aA x2), some (aA x4)] [aI x11] x9 from ?_)
          refine go_if_eq (tgt := 87) dX11_implies_80 (by decide) (fun c14 => ?_) (fun c14 => ?_)
          · rw [if_pos c14] at H
            refine go_iconst (v := (0 : Int32)) dX11_implies_87 rfl ?_
            refine go_mask [false, false, false, false, false, false, false] (loc' := [none, none, none, none, none, none, none]) rfl ?_
            exact okj_X11_implies_88 (0 : Int32) x9  H
          · rw [if_neg c14] at H
            refine go_iconst (v := (1 : Int32)) dX11_implies_83 rfl ?_
            refine go_goto (tgt := 88) dX11_implies_84 (by decide) ?_
            refine go_mask [false, false, false, false, false, false, false] (loc' := [none, none, none, none, none, none, none]) rfl ?_
            exact okj_X11_implies_88 (1 : Int32) x9  H
        · replace H := (gm_ite H).2 c10
          refine go_iconst (v := (-1 : Int32)) dX11_implies_49 rfl ?_
          obtain rfl := Option.some.inj H
          exact go_ireturn dX11_implies_50 (tyI_int rfl)
/-! X12_implies -/
def j_X12_implies_48  (s0 : Int32) (h : Hp) : Option (Int32 × Hp) :=
  some (s0, h)
set_option maxRecDepth 20000 in
theorem okj_X12_implies_48 {r : (Int32 × Hp)}  (s0 : Int32) (h : Hp) (H : j_X12_implies_48 s0 h = some r) : Go M_X12_implies (some (aI r.1), r.2) 48 [none, none, none, none, none] [aI s0] h := by
  unfold j_X12_implies_48 at H
  obtain rfl := Option.some.inj H
  exact go_ireturn dX12_implies_48 (tyI_int rfl)
def m_X12_implies (v0 : Nat) (v1 : Int32) (v2 : Int32) (v3 : Int32) (v4 : Int32) (h : Hp) : Option (Int32 × Hp) :=
  (pfI h v0 12 0 (0 : Int32)).bind fun hh1 => (rc hh1 v0 12 (m_X12_layHeld v0 v1 v2 hh1)).bind fun x1 => if x1.1 = 0 then (some ((-1 : Int32), x1.2)) else (rc x1.2 v0 12 (m_X12_isAsking v0 v3 x1.2)).bind fun x2 => if x2 = 0 then (some ((-1 : Int32), x1.2)) else (rc x1.2 v0 12 (m_X12_isAsking v0 v4 x1.2)).bind fun x3 => if ¬ x3 = 0 then ((rc x1.2 v0 12 (m_X12_isWithin v0 v3 v4 x1.2)).bind fun x4 => j_X12_implies_48 (if x4 = 0 then (0 : Int32) else (1 : Int32)) x1.2) else some ((-1 : Int32), x1.2)
set_option maxRecDepth 20000 in
theorem ok_X12_implies {r : (Int32 × Hp)} {v0 : Nat} {v1 : Int32} {v2 : Int32} {v3 : Int32} {v4 : Int32} {h : Hp} (H : m_X12_implies v0 v1 v2 v3 v4 h = some r) : Ev M_X12_implies [aA v0, aI v1, aI v2, aI v3, aI v4] h (some (aI r.1), r.2) := by
  show Go M_X12_implies (some (aI r.1), r.2) 0 [some (aA v0), some (aI v1), some (aI v2), some (aI v3), some (aI v4)] [] h
  unfold m_X12_implies at H
  refine go_aloadn dX12_implies_0 rfl ?_
  refine go_iconst (v := (0 : Int32)) dX12_implies_1 rfl ?_
  refine gm_putI fd_X12_60 (Or.inl rfl) dX12_implies_2 H (fun hh1 H => ?_)
  refine go_aloadn dX12_implies_5 rfl ?_
  refine go_iloadn dX12_implies_6 rfl ?_
  refine go_iloadn dX12_implies_7 rfl ?_
  obtain ⟨c1, x1, ex1, H⟩ := gm_rc H
  refine go_callV (vs := [aI v1, aI v2]) (stk := []) (o1 := (some (aI x1.1), x1.2)) mk_X12_layHeld sv_X12_implies_395 cl_X12 rfl dX12_implies_8 c1 rfl rfl (Nat.le_of_ble_eq_true rfl) (Nat.le_of_ble_eq_true rfl) (ok_X12_layHeld ex1) (show Go M_X12_implies (some (aI r.1), r.2) 11 [some (aA v0), some (aI v1), some (aI v2), some (aI v3), some (aI v4)] [aI x1.1] x1.2 from ?_)
  refine go_if_eq (tgt := 31) dX12_implies_11 (by decide) (fun c2 => ?_) (fun c2 => ?_)
  · replace H := (gm_ite H).1 c2
    refine go_iconst (v := (-1 : Int32)) dX12_implies_31 rfl ?_
    obtain rfl := Option.some.inj H
    exact go_ireturn dX12_implies_32 (tyI_int rfl)
  · replace H := (gm_ite H).2 c2
    refine go_aloadn dX12_implies_14 rfl ?_
    refine go_iloadn dX12_implies_15 rfl ?_
    obtain ⟨c3, x2, ex2, H⟩ := gm_rc H
    refine go_callV (vs := [aI v3]) (stk := []) (o1 := (some (aI x2), x1.2)) mk_X12_isAsking sv_X12_implies_398 cl_X12 rfl dX12_implies_16 c3 rfl rfl (Nat.le_of_ble_eq_true rfl) (Nat.le_of_ble_eq_true rfl) (ok_X12_isAsking ex2) (show Go M_X12_implies (some (aI r.1), r.2) 19 [some (aA v0), some (aI v1), some (aI v2), some (aI v3), some (aI v4)] [aI x2] x1.2 from ?_)
    refine go_if_eq (tgt := 31) dX12_implies_19 (by decide) (fun c4 => ?_) (fun c4 => ?_)
    · replace H := (gm_ite H).1 c4
      refine go_iconst (v := (-1 : Int32)) dX12_implies_31 rfl ?_
      obtain rfl := Option.some.inj H
      exact go_ireturn dX12_implies_32 (tyI_int rfl)
    · replace H := (gm_ite H).2 c4
      refine go_aloadn dX12_implies_22 rfl ?_
      refine go_iload dX12_implies_23 rfl ?_
      obtain ⟨c5, x3, ex3, H⟩ := gm_rc H
      refine go_callV (vs := [aI v4]) (stk := []) (o1 := (some (aI x3), x1.2)) mk_X12_isAsking sv_X12_implies_398 cl_X12 rfl dX12_implies_25 c5 rfl rfl (Nat.le_of_ble_eq_true rfl) (Nat.le_of_ble_eq_true rfl) (ok_X12_isAsking ex3) (show Go M_X12_implies (some (aI r.1), r.2) 28 [some (aA v0), some (aI v1), some (aI v2), some (aI v3), some (aI v4)] [aI x3] x1.2 from ?_)
      refine go_if_ne (tgt := 33) dX12_implies_28 (by decide) (fun c6 => ?_) (fun c6 => ?_)
      · replace H := (gm_ite H).1 c6
        refine go_aloadn dX12_implies_33 rfl ?_
        refine go_iloadn dX12_implies_34 rfl ?_
        refine go_iload dX12_implies_35 rfl ?_
        obtain ⟨c7, x4, ex4, H⟩ := gm_rc H
        refine go_callV (vs := [aI v3, aI v4]) (stk := []) (o1 := (some (aI x4), x1.2)) mk_X12_isWithin sv_X12_implies_419 cl_X12 rfl dX12_implies_37 c7 rfl rfl (Nat.le_of_ble_eq_true rfl) (Nat.le_of_ble_eq_true rfl) (ok_X12_isWithin ex4) (show Go M_X12_implies (some (aI r.1), r.2) 40 [some (aA v0), some (aI v1), some (aI v2), some (aI v3), some (aI v4)] [aI x4] x1.2 from ?_)
        refine go_if_eq (tgt := 47) dX12_implies_40 (by decide) (fun c8 => ?_) (fun c8 => ?_)
        · rw [if_pos c8] at H
          refine go_iconst (v := (0 : Int32)) dX12_implies_47 rfl ?_
          refine go_mask [false, false, false, false, false] (loc' := [none, none, none, none, none]) rfl ?_
          exact okj_X12_implies_48 (0 : Int32) x1.2  H
        · rw [if_neg c8] at H
          refine go_iconst (v := (1 : Int32)) dX12_implies_43 rfl ?_
          refine go_goto (tgt := 48) dX12_implies_44 (by decide) ?_
          refine go_mask [false, false, false, false, false] (loc' := [none, none, none, none, none]) rfl ?_
          exact okj_X12_implies_48 (1 : Int32) x1.2  H
      · replace H := (gm_ite H).2 c6
        refine go_iconst (v := (-1 : Int32)) dX12_implies_31 rfl ?_
        obtain rfl := Option.some.inj H
        exact go_ireturn dX12_implies_32 (tyI_int rfl)
/-! X9_huntAt -/
def j_X9_huntAt_19  (s0 : Nat) (h : Hp) : Option Nat :=
  some s0
set_option maxRecDepth 20000 in
theorem okj_X9_huntAt_19 {r : Nat}  (s0 : Nat) (h : Hp) (H : j_X9_huntAt_19 s0 h = some r) : Go M_X9_huntAt (some (aA r), h) 19 [none, none] [aA s0] h := by
  unfold j_X9_huntAt_19 at H
  obtain rfl := Option.some.inj H
  exact go_areturn dX9_huntAt_19 ⟨_, rfl, Or.inl ⟨_, rfl⟩⟩
def m_X9_huntAt (v0 : Nat) (v1 : Int32) (h : Hp) : Option Nat :=
  (rc h v0 9 (m_X9_isTold v0 (2 : Int32) v1 h)).bind fun x1 => if x1 = 0 then (j_X9_huntAt_19 0 h) else (gfR h v0 9 6).bind fun x2 => (alR h x2 26 v1).bind fun x3 => j_X9_huntAt_19 x3 h
set_option maxRecDepth 20000 in
theorem ok_X9_huntAt {r : Nat} {v0 : Nat} {v1 : Int32} {h : Hp} (H : m_X9_huntAt v0 v1 h = some r) : Ev M_X9_huntAt [aA v0, aI v1] h (some (aA r), h) := by
  show Go M_X9_huntAt (some (aA r), h) 0 [some (aA v0), some (aI v1)] [] h
  unfold m_X9_huntAt at H
  refine go_aloadn dX9_huntAt_0 rfl ?_
  refine go_iconst (v := (2 : Int32)) dX9_huntAt_1 rfl ?_
  refine go_iloadn dX9_huntAt_2 rfl ?_
  obtain ⟨c1, x1, ex1, H⟩ := gm_rc H
  refine go_callV (vs := [aI (2 : Int32), aI v1]) (stk := []) (o1 := (some (aI x1), h)) mk_X9_isTold sv_X9_huntAt_77 cl_X9 rfl dX9_huntAt_3 c1 rfl rfl (Nat.le_of_ble_eq_true rfl) (Nat.le_of_ble_eq_true rfl) (ok_X9_isTold ex1) (show Go M_X9_huntAt (some (aA r), h) 6 [some (aA v0), some (aI v1)] [aI x1] h from ?_)
  refine go_if_eq (tgt := 18) dX9_huntAt_6 (by decide) (fun c2 => ?_) (fun c2 => ?_)
  · replace H := (gm_ite H).1 c2
    refine go_null dX9_huntAt_18 ?_
    refine go_mask [false, false] (loc' := [none, none]) rfl ?_
    exact okj_X9_huntAt_19 0 h  H
  · replace H := (gm_ite H).2 c2
    refine go_aloadn dX9_huntAt_9 rfl ?_
    refine gm_getR fd_X9_43 dX9_huntAt_10 H (fun x2 H => ?_)
    refine go_iloadn dX9_huntAt_13 rfl ?_
    refine gm_aald (by decide) dX9_huntAt_14 H (fun x3 H => ?_)
    refine go_goto (tgt := 19) dX9_huntAt_15 (by decide) ?_
    refine go_mask [false, false] (loc' := [none, none]) rfl ?_
    exact okj_X9_huntAt_19 x3 h  H
/-! X3_has -/
def j_X3_has_17  (s0 : Int32) (h : Hp) : Option Int32 :=
  (zb s0).bind fun x1 => some x1
set_option maxRecDepth 20000 in
theorem okj_X3_has_17 {r : Int32}  (s0 : Int32) (h : Hp) (H : j_X3_has_17 s0 h = some r) : Go M_X3_has (some (aI r), h) 17 [none, none] [aI s0] h := by
  unfold j_X3_has_17 at H
  obtain ⟨hz, H⟩ := gm_zb H
  obtain rfl := Option.some.inj H
  exact go_ireturn (x := s0) dX3_has_17 (tyI_bool rfl hz)
def m_X3_has (v0 : Nat) (v1 : Int32) (h : Hp) : Option Int32 :=
  if v1 < 0 then j_X3_has_17 (0 : Int32) h else (gfI h v0 4 0).bind fun x1 => j_X3_has_17 (if x1 ≤ v1 then (0 : Int32) else (1 : Int32)) h
set_option maxRecDepth 20000 in
theorem ok_X3_has {r : Int32} {v0 : Nat} {v1 : Int32} {h : Hp} (H : m_X3_has v0 v1 h = some r) : Ev M_X3_has [aA v0, aI v1] h (some (aI r), h) := by
  show Go M_X3_has (some (aI r), h) 0 [some (aA v0), some (aI v1)] [] h
  unfold m_X3_has at H
  refine go_iloadn dX3_has_0 rfl ?_
  refine go_if_lt (tgt := 16) dX3_has_1 (by decide) (fun c1 => ?_) (fun c1 => ?_)
  · replace H := (gm_ite H).1 c1
    refine go_iconst (v := (0 : Int32)) dX3_has_16 rfl ?_
    refine go_mask [false, false] (loc' := [none, none]) rfl ?_
    exact okj_X3_has_17 (0 : Int32) h  H
  · replace H := (gm_ite H).2 c1
    refine go_iloadn dX3_has_4 rfl ?_
    refine go_aloadn dX3_has_5 rfl ?_
    refine gm_getI fd_X3_9 dX3_has_6 H (fun x1 H => ?_)
    refine go_icmp_ge (tgt := 16) dX3_has_9 (by decide) (fun c2 => ?_) (fun c2 => ?_)
    · rw [if_pos c2] at H
      refine go_iconst (v := (0 : Int32)) dX3_has_16 rfl ?_
      refine go_mask [false, false] (loc' := [none, none]) rfl ?_
      exact okj_X3_has_17 (0 : Int32) h  H
    · rw [if_neg c2] at H
      refine go_iconst (v := (1 : Int32)) dX3_has_12 rfl ?_
      refine go_goto (tgt := 17) dX3_has_13 (by decide) ?_
      refine go_mask [false, false] (loc' := [none, none]) rfl ?_
      exact okj_X3_has_17 (1 : Int32) h  H
/-! X3_partOf -/
def m_X3_partOf (v0 : Nat) (v1 : Int32) (v2 : Int32) (h : Hp) : Option Int32 :=
  (gfR h v0 4 1).bind fun x1 => (m_X5_at x1 ((v1 * (3 : Int32)) + v2) h).bind fun x2 => some x2
set_option maxRecDepth 20000 in
theorem ok_X3_partOf {r : Int32} {v0 : Nat} {v1 : Int32} {v2 : Int32} {h : Hp} (H : m_X3_partOf v0 v1 v2 h = some r) : Ev M_X3_partOf [aA v0, aI v1, aI v2] h (some (aI r), h) := by
  show Go M_X3_partOf (some (aI r), h) 0 [some (aA v0), some (aI v1), some (aI v2)] [] h
  unfold m_X3_partOf at H
  refine go_aloadn dX3_partOf_0 rfl ?_
  refine gm_getR fd_X3_15 dX3_partOf_1 H (fun x1 H => ?_)
  refine go_iloadn dX3_partOf_4 rfl ?_
  refine go_iconst (v := (3 : Int32)) dX3_partOf_5 rfl ?_
  refine go_imul dX3_partOf_6 ?_
  refine go_iloadn dX3_partOf_7 rfl ?_
  refine go_iadd dX3_partOf_8 ?_
  obtain ⟨x2, ex2, H⟩ := bind_some H
  refine go_callS (vs := [aA x1, aI ((v1 * (3 : Int32)) + v2)]) (stk := []) (o1 := (some (aI x2), h)) mk_X5_at ss_X3_partOf_38 dX3_partOf_9 rfl rfl (Nat.le_of_ble_eq_true rfl) (Nat.le_of_ble_eq_true rfl) (ok_X5_at ex2) (show Go M_X3_partOf (some (aI r), h) 12 [some (aA v0), some (aI v1), some (aI v2)] [aI x2] h from ?_)
  obtain rfl := Option.some.inj H
  exact go_ireturn dX3_partOf_12 (tyI_int rfl)
/-! X11_fact -/
def j_X11_fact_68  (s0 : Int32) (h : Hp) : Option Int32 :=
  some s0
set_option maxRecDepth 20000 in
theorem okj_X11_fact_68 {r : Int32}  (s0 : Int32) (h : Hp) (H : j_X11_fact_68 s0 h = some r) : Go M_X11_fact (some (aI r), h) 68 [none, none, none, none, none] [aI s0] h := by
  unfold j_X11_fact_68 at H
  obtain rfl := Option.some.inj H
  exact go_ireturn dX11_fact_68 (tyI_int rfl)
def j_X11_fact_37  (s0 : Int32) (h : Hp) : Option Int32 :=
  some s0
set_option maxRecDepth 20000 in
theorem okj_X11_fact_37 {r : Int32}  (s0 : Int32) (h : Hp) (H : j_X11_fact_37 s0 h = some r) : Go M_X11_fact (some (aI r), h) 37 [none, none, none, none, none] [aI s0] h := by
  unfold j_X11_fact_37 at H
  obtain rfl := Option.some.inj H
  exact go_ireturn dX11_fact_37 (tyI_int rfl)
def m_X11_fact (v0 : Nat) (v1 : Int32) (v2 : Int32) (v3 : Int32) (h : Hp) : Option Int32 :=
  (gfR h v0 11 0).bind fun x1 => (rc h x1 9 (m_X9_huntAt x1 v1 h)).bind fun x2 => (nz x2).bind fun _ => if ¬ x2 = 0 then (if ¬ v2 = (-1 : Int32) then ((rc h x2 4 (m_X3_has x2 v2 h)).bind fun x3 => if x3 = 0 then j_X11_fact_68 (-2 : Int32) h else if v3 < 0 then j_X11_fact_68 (-2 : Int32) h else if (3 : Int32) ≤ v3 then j_X11_fact_68 (-2 : Int32) h else (rc h x2 4 (m_X3_partOf x2 v2 v3 h)).bind fun x4 => j_X11_fact_68 x4 h) else if ¬ v3 = 0 then j_X11_fact_37 (-2 : Int32) h else (gfI h x2 4 0).bind fun x5 => j_X11_fact_37 x5 h) else some (-2 : Int32)
set_option maxRecDepth 20000 in
theorem ok_X11_fact {r : Int32} {v0 : Nat} {v1 : Int32} {v2 : Int32} {v3 : Int32} {h : Hp} (H : m_X11_fact v0 v1 v2 v3 h = some r) : Ev M_X11_fact [aA v0, aI v1, aI v2, aI v3] h (some (aI r), h) := by
  show Go M_X11_fact (some (aI r), h) 0 [some (aA v0), some (aI v1), some (aI v2), some (aI v3), none] [] h
  unfold m_X11_fact at H
  refine go_aloadn dX11_fact_0 rfl ?_
  refine gm_getR fd_X11_10 dX11_fact_1 H (fun x1 H => ?_)
  refine go_iloadn dX11_fact_4 rfl ?_
  obtain ⟨c1, x2, ex2, H⟩ := gm_rc H
  refine go_callV (vs := [aI v1]) (stk := []) (o1 := (some (aA x2), h)) mk_X9_huntAt sv_X11_fact_311 cl_X9 rfl dX11_fact_5 c1 rfl rfl (Nat.le_of_ble_eq_true rfl) (Nat.le_of_ble_eq_true rfl) (ok_X9_huntAt ex2) (show Go M_X11_fact (some (aI r), h) 8 [some (aA v0), some (aI v1), some (aI v2), some (aI v3), none] [aA x2] h from ?_)
  refine go_astore (loc2 := [some (aA v0), some (aI v1), some (aI v2), some (aI v3), some (aA x2)]) dX11_fact_8 (by decide) rfl ?_
  refine go_aload dX11_fact_10 rfl ?_
  obtain ⟨c3, H⟩ := gm_nz H
  refine go_ifnonnull (tgt := 18) dX11_fact_12 (by decide) c3 (fun c2 => ?_) (fun c2 => ?_)
  · replace H := (gm_ite H).1 c2
    refine go_iloadn dX11_fact_18 rfl ?_
    refine go_iconst (v := (-1 : Int32)) dX11_fact_19 rfl ?_
    refine go_icmp_ne (tgt := 38) dX11_fact_20 (by decide) (fun c4 => ?_) (fun c4 => ?_)
    · replace H := (gm_ite H).1 c4
      refine go_aload dX11_fact_38 rfl ?_
      refine go_iloadn dX11_fact_40 rfl ?_
      obtain ⟨c5, x3, ex3, H⟩ := gm_rc H
      refine go_callV (vs := [aI v2]) (stk := []) (o1 := (some (aI x3), h)) mk_X3_has sv_X11_fact_318 cl_X3 rfl dX11_fact_41 c5 rfl rfl (Nat.le_of_ble_eq_true rfl) (Nat.le_of_ble_eq_true rfl) (ok_X3_has ex3) (show Go M_X11_fact (some (aI r), h) 44 [some (aA v0), some (aI v1), some (aI v2), some (aI v3), some (aA x2)] [aI x3] h from ?_)
      refine go_if_eq (tgt := 66) dX11_fact_44 (by decide) (fun c6 => ?_) (fun c6 => ?_)
      · replace H := (gm_ite H).1 c6
        refine go_bipush (v := (-2 : Int32)) dX11_fact_66 rfl ?_
        refine go_mask [false, false, false, false, false] (loc' := [none, none, none, none, none]) rfl ?_
        exact okj_X11_fact_68 (-2 : Int32) h  H
      · replace H := (gm_ite H).2 c6
        refine go_iloadn dX11_fact_47 rfl ?_
        refine go_if_lt (tgt := 66) dX11_fact_48 (by decide) (fun c7 => ?_) (fun c7 => ?_)
        · replace H := (gm_ite H).1 c7
          refine go_bipush (v := (-2 : Int32)) dX11_fact_66 rfl ?_
          refine go_mask [false, false, false, false, false] (loc' := [none, none, none, none, none]) rfl ?_
          exact okj_X11_fact_68 (-2 : Int32) h  H
        · replace H := (gm_ite H).2 c7
          refine go_iloadn dX11_fact_51 rfl ?_
          refine go_iconst (v := (3 : Int32)) dX11_fact_52 rfl ?_
          refine go_icmp_ge (tgt := 66) dX11_fact_53 (by decide) (fun c8 => ?_) (fun c8 => ?_)
          · replace H := (gm_ite H).1 c8
            refine go_bipush (v := (-2 : Int32)) dX11_fact_66 rfl ?_
            refine go_mask [false, false, false, false, false] (loc' := [none, none, none, none, none]) rfl ?_
            exact okj_X11_fact_68 (-2 : Int32) h  H
          · replace H := (gm_ite H).2 c8
            refine go_aload dX11_fact_56 rfl ?_
            refine go_iloadn dX11_fact_58 rfl ?_
            refine go_iloadn dX11_fact_59 rfl ?_
            obtain ⟨c9, x4, ex4, H⟩ := gm_rc H
            refine go_callV (vs := [aI v2, aI v3]) (stk := []) (o1 := (some (aI x4), h)) mk_X3_partOf sv_X11_fact_319 cl_X3 rfl dX11_fact_60 c9 rfl rfl (Nat.le_of_ble_eq_true rfl) (Nat.le_of_ble_eq_true rfl) (ok_X3_partOf ex4) (show Go M_X11_fact (some (aI r), h) 63 [some (aA v0), some (aI v1), some (aI v2), some (aI v3), some (aA x2)] [aI x4] h from ?_)
            refine go_goto (tgt := 68) dX11_fact_63 (by decide) ?_
            refine go_mask [false, false, false, false, false] (loc' := [none, none, none, none, none]) rfl ?_
            exact okj_X11_fact_68 x4 h  H
    · replace H := (gm_ite H).2 c4
      refine go_iloadn dX11_fact_23 rfl ?_
      refine go_if_ne (tgt := 35) dX11_fact_24 (by decide) (fun c10 => ?_) (fun c10 => ?_)
      · replace H := (gm_ite H).1 c10
        refine go_bipush (v := (-2 : Int32)) dX11_fact_35 rfl ?_
        refine go_mask [false, false, false, false, false] (loc' := [none, none, none, none, none]) rfl ?_
        exact okj_X11_fact_37 (-2 : Int32) h  H
      · replace H := (gm_ite H).2 c10
        refine go_aload dX11_fact_27 rfl ?_
        refine gm_getI fd_X11_315 dX11_fact_29 H (fun x5 H => ?_)
        refine go_goto (tgt := 37) dX11_fact_32 (by decide) ?_
        refine go_mask [false, false, false, false, false] (loc' := [none, none, none, none, none]) rfl ?_
        exact okj_X11_fact_37 x5 h  H
  · replace H := (gm_ite H).2 (fun q => q c2)
    refine go_bipush (v := (-2 : Int32)) dX11_fact_15 rfl ?_
    obtain rfl := Option.some.inj H
    exact go_ireturn dX11_fact_17 (tyI_int rfl)
/-! X12_hasHunt -/
def m_X12_hasHunt (v0 : Nat) (v1 : Int32) (h : Hp) : Option (Int32 × Hp) :=
  (pfI h v0 12 30 v1).bind fun hh1 => (rc hh1 v0 12 (m_X12_is v0 (2 : Int32) v1 hh1)).bind fun x1 => (zb x1).bind fun x2 => some (x2, hh1)
set_option maxRecDepth 20000 in
theorem ok_X12_hasHunt {r : (Int32 × Hp)} {v0 : Nat} {v1 : Int32} {h : Hp} (H : m_X12_hasHunt v0 v1 h = some r) : Ev M_X12_hasHunt [aA v0, aI v1] h (some (aI r.1), r.2) := by
  show Go M_X12_hasHunt (some (aI r.1), r.2) 0 [some (aA v0), some (aI v1)] [] h
  unfold m_X12_hasHunt at H
  refine go_aloadn dX12_hasHunt_0 rfl ?_
  refine go_iloadn dX12_hasHunt_1 rfl ?_
  refine gm_putI fd_X12_428 (Or.inl rfl) dX12_hasHunt_2 H (fun hh1 H => ?_)
  refine go_aloadn dX12_hasHunt_5 rfl ?_
  refine go_iconst (v := (2 : Int32)) dX12_hasHunt_6 rfl ?_
  refine go_iloadn dX12_hasHunt_7 rfl ?_
  obtain ⟨c1, x1, ex1, H⟩ := gm_rc H
  refine go_callV (vs := [aI (2 : Int32), aI v1]) (stk := []) (o1 := (some (aI x1), hh1)) mk_X12_is sv_X12_hasHunt_243 cl_X12 rfl dX12_hasHunt_8 c1 rfl rfl (Nat.le_of_ble_eq_true rfl) (Nat.le_of_ble_eq_true rfl) (ok_X12_is ex1) (show Go M_X12_hasHunt (some (aI r.1), r.2) 11 [some (aA v0), some (aI v1)] [aI x1] hh1 from ?_)
  obtain ⟨hz, H⟩ := gm_zb H
  obtain rfl := Option.some.inj H
  exact go_ireturn (x := x1) dX12_hasHunt_11 (tyI_bool rfl hz)
/-! X12_facts -/
def m_X12_facts (v0 : Nat) (h : Hp) : Option Int32 :=
  (gfR h v0 12 8).bind fun x1 => (gfI h v0 12 30).bind fun x2 => (alI h x1 ((25 : Int32) * x2)).bind fun x3 => some x3
set_option maxRecDepth 20000 in
theorem ok_X12_facts {r : Int32} {v0 : Nat} {h : Hp} (H : m_X12_facts v0 h = some r) : Ev M_X12_facts [aA v0] h (some (aI r), h) := by
  show Go M_X12_facts (some (aI r), h) 0 [some (aA v0)] [] h
  unfold m_X12_facts at H
  refine go_aloadn dX12_facts_0 rfl ?_
  refine gm_getR fd_X12_32 dX12_facts_1 H (fun x1 H => ?_)
  refine go_bipush (v := (25 : Int32)) dX12_facts_4 rfl ?_
  refine go_aloadn dX12_facts_6 rfl ?_
  refine gm_getI fd_X12_428 dX12_facts_7 H (fun x2 H => ?_)
  refine go_imul dX12_facts_10 ?_
  refine gm_iald dX12_facts_11 H (fun x3 H => ?_)
  obtain rfl := Option.some.inj H
  exact go_ireturn dX12_facts_12 (tyI_int rfl)
/-! X12_factOf -/
def m_X12_factOf (v0 : Nat) (v1 : Int32) (v2 : Int32) (h : Hp) : Option Int32 :=
  (gfR h v0 12 8).bind fun x1 => (gfI h v0 12 30).bind fun x2 => (alI h x1 (((((25 : Int32) * x2) + (1 : Int32)) + ((3 : Int32) * v1)) + v2)).bind fun x3 => some x3
set_option maxRecDepth 20000 in
theorem ok_X12_factOf {r : Int32} {v0 : Nat} {v1 : Int32} {v2 : Int32} {h : Hp} (H : m_X12_factOf v0 v1 v2 h = some r) : Ev M_X12_factOf [aA v0, aI v1, aI v2] h (some (aI r), h) := by
  show Go M_X12_factOf (some (aI r), h) 0 [some (aA v0), some (aI v1), some (aI v2)] [] h
  unfold m_X12_factOf at H
  refine go_aloadn dX12_factOf_0 rfl ?_
  refine gm_getR fd_X12_32 dX12_factOf_1 H (fun x1 H => ?_)
  refine go_bipush (v := (25 : Int32)) dX12_factOf_4 rfl ?_
  refine go_aloadn dX12_factOf_6 rfl ?_
  refine gm_getI fd_X12_428 dX12_factOf_7 H (fun x2 H => ?_)
  refine go_imul dX12_factOf_10 ?_
  refine go_iconst (v := (1 : Int32)) dX12_factOf_11 rfl ?_
  refine go_iadd dX12_factOf_12 ?_
  refine go_iconst (v := (3 : Int32)) dX12_factOf_13 rfl ?_
  refine go_iloadn dX12_factOf_14 rfl ?_
  refine go_imul dX12_factOf_15 ?_
  refine go_iadd dX12_factOf_16 ?_
  refine go_iloadn dX12_factOf_17 rfl ?_
  refine go_iadd dX12_factOf_18 ?_
  refine gm_iald dX12_factOf_19 H (fun x3 H => ?_)
  obtain rfl := Option.some.inj H
  exact go_ireturn dX12_factOf_20 (tyI_int rfl)
/-! X12_fact -/
def j_X12_fact_69  (s0 : Int32) (h : Hp) : Option (Int32 × Hp) :=
  some (s0, h)
set_option maxRecDepth 20000 in
theorem okj_X12_fact_69 {r : (Int32 × Hp)}  (s0 : Int32) (h : Hp) (H : j_X12_fact_69 s0 h = some r) : Go M_X12_fact (some (aI r.1), r.2) 69 [none, none, none, none] [aI s0] h := by
  unfold j_X12_fact_69 at H
  obtain rfl := Option.some.inj H
  exact go_ireturn dX12_fact_69 (tyI_int rfl)
def j_X12_fact_34  (s0 : Int32) (h : Hp) : Option (Int32 × Hp) :=
  some (s0, h)
set_option maxRecDepth 20000 in
theorem okj_X12_fact_34 {r : (Int32 × Hp)}  (s0 : Int32) (h : Hp) (H : j_X12_fact_34 s0 h = some r) : Go M_X12_fact (some (aI r.1), r.2) 34 [none, none, none, none] [aI s0] h := by
  unfold j_X12_fact_34 at H
  obtain rfl := Option.some.inj H
  exact go_ireturn dX12_fact_34 (tyI_int rfl)
def m_X12_fact (v0 : Nat) (v1 : Int32) (v2 : Int32) (v3 : Int32) (h : Hp) : Option (Int32 × Hp) :=
  (pfI h v0 12 0 (0 : Int32)).bind fun hh1 => (rc hh1 v0 12 (m_X12_hasHunt v0 v1 hh1)).bind fun x1 => if ¬ x1.1 = 0 then (if ¬ v2 = (-1 : Int32) then ((rc x1.2 v0 12 (m_X12_facts v0 x1.2)).bind fun x2 => (m_X12_in v2 (0 : Int32) (x2 - (1 : Int32)) x1.2).bind fun x3 => if x3 = 0 then j_X12_fact_69 (-2 : Int32) x1.2 else (m_X12_in v3 (0 : Int32) (2 : Int32) x1.2).bind fun x4 => if x4 = 0 then j_X12_fact_69 (-2 : Int32) x1.2 else (rc x1.2 v0 12 (m_X12_factOf v0 v2 v3 x1.2)).bind fun x5 => j_X12_fact_69 x5 x1.2) else if ¬ v3 = 0 then j_X12_fact_34 (-2 : Int32) x1.2 else (rc x1.2 v0 12 (m_X12_facts v0 x1.2)).bind fun x6 => j_X12_fact_34 x6 x1.2) else some ((-2 : Int32), x1.2)
set_option maxRecDepth 20000 in
theorem ok_X12_fact {r : (Int32 × Hp)} {v0 : Nat} {v1 : Int32} {v2 : Int32} {v3 : Int32} {h : Hp} (H : m_X12_fact v0 v1 v2 v3 h = some r) : Ev M_X12_fact [aA v0, aI v1, aI v2, aI v3] h (some (aI r.1), r.2) := by
  show Go M_X12_fact (some (aI r.1), r.2) 0 [some (aA v0), some (aI v1), some (aI v2), some (aI v3)] [] h
  unfold m_X12_fact at H
  refine go_aloadn dX12_fact_0 rfl ?_
  refine go_iconst (v := (0 : Int32)) dX12_fact_1 rfl ?_
  refine gm_putI fd_X12_60 (Or.inl rfl) dX12_fact_2 H (fun hh1 H => ?_)
  refine go_aloadn dX12_fact_5 rfl ?_
  refine go_iloadn dX12_fact_6 rfl ?_
  obtain ⟨c1, x1, ex1, H⟩ := gm_rc H
  refine go_callV (vs := [aI v1]) (stk := []) (o1 := (some (aI x1.1), x1.2)) mk_X12_hasHunt sv_X12_fact_431 cl_X12 rfl dX12_fact_7 c1 rfl rfl (Nat.le_of_ble_eq_true rfl) (Nat.le_of_ble_eq_true rfl) (ok_X12_hasHunt ex1) (show Go M_X12_fact (some (aI r.1), r.2) 10 [some (aA v0), some (aI v1), some (aI v2), some (aI v3)] [aI x1.1] x1.2 from ?_)
  refine go_if_ne (tgt := 16) dX12_fact_10 (by decide) (fun c2 => ?_) (fun c2 => ?_)
  · replace H := (gm_ite H).1 c2
    refine go_iloadn dX12_fact_16 rfl ?_
    refine go_iconst (v := (-1 : Int32)) dX12_fact_17 rfl ?_
    refine go_icmp_ne (tgt := 35) dX12_fact_18 (by decide) (fun c3 => ?_) (fun c3 => ?_)
    · replace H := (gm_ite H).1 c3
      refine go_iloadn dX12_fact_35 rfl ?_
      refine go_iconst (v := (0 : Int32)) dX12_fact_36 rfl ?_
      refine go_aloadn dX12_fact_37 rfl ?_
      obtain ⟨c4, x2, ex2, H⟩ := gm_rc H
      refine go_callV (vs := []) (stk := [aI (0 : Int32), aI v2]) (o1 := (some (aI x2), x1.2)) mk_X12_facts sv_X12_fact_434 cl_X12 rfl dX12_fact_38 c4 rfl rfl (Nat.le_of_ble_eq_true rfl) (Nat.le_of_ble_eq_true rfl) (ok_X12_facts ex2) (show Go M_X12_fact (some (aI r.1), r.2) 41 [some (aA v0), some (aI v1), some (aI v2), some (aI v3)] [aI x2, aI (0 : Int32), aI v2] x1.2 from ?_)
      refine go_iconst (v := (1 : Int32)) dX12_fact_41 rfl ?_
      refine go_isub dX12_fact_42 ?_
      obtain ⟨x3, ex3, H⟩ := bind_some H
      refine go_callS (vs := [aI v2, aI (0 : Int32), aI (x2 - (1 : Int32))]) (stk := []) (o1 := (some (aI x3), x1.2)) mk_X12_in ss_X12_fact_72 dX12_fact_43 rfl rfl (Nat.le_of_ble_eq_true rfl) (Nat.le_of_ble_eq_true rfl) (ok_X12_in ex3) (show Go M_X12_fact (some (aI r.1), r.2) 46 [some (aA v0), some (aI v1), some (aI v2), some (aI v3)] [aI x3] x1.2 from ?_)
      refine go_if_eq (tgt := 67) dX12_fact_46 (by decide) (fun c6 => ?_) (fun c6 => ?_)
      · replace H := (gm_ite H).1 c6
        refine go_bipush (v := (-2 : Int32)) dX12_fact_67 rfl ?_
        refine go_mask [false, false, false, false] (loc' := [none, none, none, none]) rfl ?_
        exact okj_X12_fact_69 (-2 : Int32) x1.2  H
      · replace H := (gm_ite H).2 c6
        refine go_iloadn dX12_fact_49 rfl ?_
        refine go_iconst (v := (0 : Int32)) dX12_fact_50 rfl ?_
        refine go_iconst (v := (2 : Int32)) dX12_fact_51 rfl ?_
        obtain ⟨x4, ex4, H⟩ := bind_some H
        refine go_callS (vs := [aI v3, aI (0 : Int32), aI (2 : Int32)]) (stk := []) (o1 := (some (aI x4), x1.2)) mk_X12_in ss_X12_fact_72 dX12_fact_52 rfl rfl (Nat.le_of_ble_eq_true rfl) (Nat.le_of_ble_eq_true rfl) (ok_X12_in ex4) (show Go M_X12_fact (some (aI r.1), r.2) 55 [some (aA v0), some (aI v1), some (aI v2), some (aI v3)] [aI x4] x1.2 from ?_)
        refine go_if_eq (tgt := 67) dX12_fact_55 (by decide) (fun c8 => ?_) (fun c8 => ?_)
        · replace H := (gm_ite H).1 c8
          refine go_bipush (v := (-2 : Int32)) dX12_fact_67 rfl ?_
          refine go_mask [false, false, false, false] (loc' := [none, none, none, none]) rfl ?_
          exact okj_X12_fact_69 (-2 : Int32) x1.2  H
        · replace H := (gm_ite H).2 c8
          refine go_aloadn dX12_fact_58 rfl ?_
          refine go_iloadn dX12_fact_59 rfl ?_
          refine go_iloadn dX12_fact_60 rfl ?_
          obtain ⟨c9, x5, ex5, H⟩ := gm_rc H
          refine go_callV (vs := [aI v2, aI v3]) (stk := []) (o1 := (some (aI x5), x1.2)) mk_X12_factOf sv_X12_fact_437 cl_X12 rfl dX12_fact_61 c9 rfl rfl (Nat.le_of_ble_eq_true rfl) (Nat.le_of_ble_eq_true rfl) (ok_X12_factOf ex5) (show Go M_X12_fact (some (aI r.1), r.2) 64 [some (aA v0), some (aI v1), some (aI v2), some (aI v3)] [aI x5] x1.2 from ?_)
          refine go_goto (tgt := 69) dX12_fact_64 (by decide) ?_
          refine go_mask [false, false, false, false] (loc' := [none, none, none, none]) rfl ?_
          exact okj_X12_fact_69 x5 x1.2  H
    · replace H := (gm_ite H).2 c3
      refine go_iloadn dX12_fact_21 rfl ?_
      refine go_if_ne (tgt := 32) dX12_fact_22 (by decide) (fun c10 => ?_) (fun c10 => ?_)
      · replace H := (gm_ite H).1 c10
        refine go_bipush (v := (-2 : Int32)) dX12_fact_32 rfl ?_
        refine go_mask [false, false, false, false] (loc' := [none, none, none, none]) rfl ?_
        exact okj_X12_fact_34 (-2 : Int32) x1.2  H
      · replace H := (gm_ite H).2 c10
        refine go_aloadn dX12_fact_25 rfl ?_
        obtain ⟨c11, x6, ex6, H⟩ := gm_rc H
        refine go_callV (vs := []) (stk := []) (o1 := (some (aI x6), x1.2)) mk_X12_facts sv_X12_fact_434 cl_X12 rfl dX12_fact_26 c11 rfl rfl (Nat.le_of_ble_eq_true rfl) (Nat.le_of_ble_eq_true rfl) (ok_X12_facts ex6) (show Go M_X12_fact (some (aI r.1), r.2) 29 [some (aA v0), some (aI v1), some (aI v2), some (aI v3)] [aI x6] x1.2 from ?_)
        refine go_goto (tgt := 34) dX12_fact_29 (by decide) ?_
        refine go_mask [false, false, false, false] (loc' := [none, none, none, none]) rfl ?_
        exact okj_X12_fact_34 x6 x1.2  H
  · replace H := (gm_ite H).2 c2
    refine go_bipush (v := (-2 : Int32)) dX12_fact_13 rfl ?_
    obtain rfl := Option.some.inj H
    exact go_ireturn dX12_fact_15 (tyI_int rfl)
/-! X3_slotsTold -/
def j_X3_slotsTold_47 (v0 : Nat) (v1 : Int32) (v2 : Int64) (v4 : Int32)  (h : Hp) (k : Int64 → Int32 → Option Int64) : Option Int64 :=
  k v2 (v4 + (1 : Int32))
set_option maxRecDepth 20000 in
theorem okj_X3_slotsTold_47 {r : Int64} (v0 : Nat) (v1 : Int32) (v2 : Int64) (v4 : Int32)  (h : Hp) (k : Int64 → Int32 → Option Int64) (Hk : ∀ (v2q : Int64) (v4q : Int32), k v2q v4q = some r → Go M_X3_slotsTold (some (aL r), h) 5 [some (aA v0), some (aI v1), some (aL v2q), none, some (aI v4q)] [] h) (H : j_X3_slotsTold_47 v0 v1 v2 v4 h k = some r) : Go M_X3_slotsTold (some (aL r), h) 47 [some (aA v0), some (aI v1), some (aL v2), none, some (aI v4)] [] h := by
  unfold j_X3_slotsTold_47 at H
  refine go_iinc (v := (v4 + (1 : Int32))) (loc2 := [some (aA v0), some (aI v1), some (aL v2), none, some (aI (v4 + (1 : Int32)))]) dX3_slotsTold_47 rfl rfl (by decide) rfl ?_
  refine go_goto (tgt := 5) dX3_slotsTold_50 (by decide) ?_
  exact Hk v2 (v4 + (1 : Int32)) H
def b_X3_slotsTold_5 (v0 : Nat) (v1 : Int32) (h : Hp) (k : Int64 → Int32 → Option Int64) (v2 : Int64) (v4 : Int32) : Option Int64 :=
  (gfI h v0 4 0).bind fun x1 => if x1 ≤ v4 then (some v2) else (rc h v0 4 (m_X3_partOf v0 v4 (0 : Int32) h)).bind fun x2 => if ¬ x2 = v1 then j_X3_slotsTold_47 v0 v1 v2 v4 h k else (rc h v0 4 (m_X3_partOf v0 v4 (1 : Int32) h)).bind fun x3 => (rc h v0 4 (m_X3_partOf v0 v4 (2 : Int32) h)).bind fun x4 => (m_X0_slotOf x3 x4 h).bind fun x5 => j_X3_slotsTold_47 v0 v1 (v2 ||| (lshlF (1 : Int64) x5)) v4 h k
set_option maxRecDepth 20000 in
theorem okb_X3_slotsTold_5 {r : Int64} (v0 : Nat) (v1 : Int32) (h : Hp) (k : Int64 → Int32 → Option Int64) (v2 : Int64) (v4 : Int32) (Hk : ∀ (v2q : Int64) (v4q : Int32), k v2q v4q = some r → Go M_X3_slotsTold (some (aL r), h) 5 [some (aA v0), some (aI v1), some (aL v2q), none, some (aI v4q)] [] h) (H : b_X3_slotsTold_5 v0 v1 h k v2 v4 = some r) : Go M_X3_slotsTold (some (aL r), h) 5 [some (aA v0), some (aI v1), some (aL v2), none, some (aI v4)] [] h := by
  unfold b_X3_slotsTold_5 at H
  refine go_iload dX3_slotsTold_5 rfl ?_
  refine go_aloadn dX3_slotsTold_7 rfl ?_
  refine gm_getI fd_X3_9 dX3_slotsTold_8 H (fun x1 H => ?_)
  refine go_icmp_ge (tgt := 53) dX3_slotsTold_11 (by decide) (fun c1 => ?_) (fun c1 => ?_)
  · replace H := (gm_ite H).1 c1
    refine go_lloadn dX3_slotsTold_53 rfl ?_
    obtain rfl := Option.some.inj H
    exact go_lreturn dX3_slotsTold_54 rfl
  · replace H := (gm_ite H).2 c1
    refine go_aloadn dX3_slotsTold_14 rfl ?_
    refine go_iload dX3_slotsTold_15 rfl ?_
    refine go_iconst (v := (0 : Int32)) dX3_slotsTold_17 rfl ?_
    obtain ⟨c2, x2, ex2, H⟩ := gm_rc H
    refine go_callV (vs := [aI v4, aI (0 : Int32)]) (stk := []) (o1 := (some (aI x2), h)) mk_X3_partOf sv_X3_slotsTold_42 cl_X3 rfl dX3_slotsTold_18 c2 rfl rfl (Nat.le_of_ble_eq_true rfl) (Nat.le_of_ble_eq_true rfl) (ok_X3_partOf ex2) (show Go M_X3_slotsTold (some (aL r), h) 21 [some (aA v0), some (aI v1), some (aL v2), none, some (aI v4)] [aI x2] h from ?_)
    refine go_iloadn dX3_slotsTold_21 rfl ?_
    refine go_icmp_ne (tgt := 47) dX3_slotsTold_22 (by decide) (fun c3 => ?_) (fun c3 => ?_)
    · replace H := (gm_ite H).1 c3
      exact okj_X3_slotsTold_47 v0 v1 v2 v4 h k Hk H
    · replace H := (gm_ite H).2 c3
      refine go_lloadn dX3_slotsTold_25 rfl ?_
      refine go_lconst (v := (1 : Int64)) dX3_slotsTold_26 rfl ?_
      refine go_aloadn dX3_slotsTold_27 rfl ?_
      refine go_iload dX3_slotsTold_28 rfl ?_
      refine go_iconst (v := (1 : Int32)) dX3_slotsTold_30 rfl ?_
      obtain ⟨c4, x3, ex3, H⟩ := gm_rc H
      refine go_callV (vs := [aI v4, aI (1 : Int32)]) (stk := [aL (1 : Int64), aL v2]) (o1 := (some (aI x3), h)) mk_X3_partOf sv_X3_slotsTold_42 cl_X3 rfl dX3_slotsTold_31 c4 rfl rfl (Nat.le_of_ble_eq_true rfl) (Nat.le_of_ble_eq_true rfl) (ok_X3_partOf ex3) (show Go M_X3_slotsTold (some (aL r), h) 34 [some (aA v0), some (aI v1), some (aL v2), none, some (aI v4)] [aI x3, aL (1 : Int64), aL v2] h from ?_)
      refine go_aloadn dX3_slotsTold_34 rfl ?_
      refine go_iload dX3_slotsTold_35 rfl ?_
      refine go_iconst (v := (2 : Int32)) dX3_slotsTold_37 rfl ?_
      obtain ⟨c5, x4, ex4, H⟩ := gm_rc H
      refine go_callV (vs := [aI v4, aI (2 : Int32)]) (stk := [aI x3, aL (1 : Int64), aL v2]) (o1 := (some (aI x4), h)) mk_X3_partOf sv_X3_slotsTold_42 cl_X3 rfl dX3_slotsTold_38 c5 rfl rfl (Nat.le_of_ble_eq_true rfl) (Nat.le_of_ble_eq_true rfl) (ok_X3_partOf ex4) (show Go M_X3_slotsTold (some (aL r), h) 41 [some (aA v0), some (aI v1), some (aL v2), none, some (aI v4)] [aI x4, aI x3, aL (1 : Int64), aL v2] h from ?_)
      obtain ⟨x5, ex5, H⟩ := bind_some H
      refine go_callS (vs := [aI x3, aI x4]) (stk := [aL (1 : Int64), aL v2]) (o1 := (some (aI x5), h)) mk_X0_slotOf ss_X3_slotsTold_46 dX3_slotsTold_41 rfl rfl (Nat.le_of_ble_eq_true rfl) (Nat.le_of_ble_eq_true rfl) (ok_X0_slotOf ex5) (show Go M_X3_slotsTold (some (aL r), h) 44 [some (aA v0), some (aI v1), some (aL v2), none, some (aI v4)] [aI x5, aL (1 : Int64), aL v2] h from ?_)
      refine go_lshl dX3_slotsTold_44 ?_
      refine go_lor dX3_slotsTold_45 ?_
      refine go_lstoren (loc2 := [some (aA v0), some (aI v1), some (aL (v2 ||| (lshlF (1 : Int64) x5))), none, some (aI v4)]) dX3_slotsTold_46 rfl (by decide) rfl ?_
      exact okj_X3_slotsTold_47 v0 v1 (v2 ||| (lshlF (1 : Int64) x5)) v4 h k Hk H
def l_X3_slotsTold_5 (v0 : Nat) (v1 : Int32) (h : Hp) (v2 : Int64) (v4 : Int32) : Option Int64 := loopK FUEL (fun (k : Int64 × Int32 → Option Int64) (s : Int64 × Int32) => b_X3_slotsTold_5 v0 v1 h (fun v2q v4q => k (v2q, v4q)) s.1 s.2) (v2, v4)
theorem okl_X3_slotsTold_5 {r : Int64} (v0 : Nat) (v1 : Int32) (h : Hp) (v2 : Int64) (v4 : Int32) (H : l_X3_slotsTold_5 v0 v1 h v2 v4 = some r) : Go M_X3_slotsTold (some (aL r), h) 5 [some (aA v0), some (aI v1), some (aL v2), none, some (aI v4)] [] h := by
  unfold l_X3_slotsTold_5 at H
  exact go_loop (σ := Int64 × Int32) (body := (fun (k : Int64 × Int32 → Option Int64) (s : Int64 × Int32) => b_X3_slotsTold_5 v0 v1 h (fun v2q v4q => k (v2q, v4q)) s.1 s.2)) (fun s => [some (aA v0), some (aI v1), some (aL s.1), none, some (aI s.2)]) (fun s => h) (fun k s Hk H => okb_X3_slotsTold_5 v0 v1 h (fun v2q v4q => k (v2q, v4q)) s.1 s.2  (fun v2q v4q H => Hk (v2q, v4q) H) H) FUEL (v2, v4) H
def m_X3_slotsTold (v0 : Nat) (v1 : Int32) (h : Hp) : Option Int64 :=
  l_X3_slotsTold_5 v0 v1 h (0 : Int64) (0 : Int32)
set_option maxRecDepth 20000 in
theorem ok_X3_slotsTold {r : Int64} {v0 : Nat} {v1 : Int32} {h : Hp} (H : m_X3_slotsTold v0 v1 h = some r) : Ev M_X3_slotsTold [aA v0, aI v1] h (some (aL r), h) := by
  show Go M_X3_slotsTold (some (aL r), h) 0 [some (aA v0), some (aI v1), none, none, none] [] h
  unfold m_X3_slotsTold at H
  refine go_lconst (v := (0 : Int64)) dX3_slotsTold_0 rfl ?_
  refine go_lstoren (loc2 := [some (aA v0), some (aI v1), some (aL (0 : Int64)), none, none]) dX3_slotsTold_1 rfl (by decide) rfl ?_
  refine go_iconst (v := (0 : Int32)) dX3_slotsTold_2 rfl ?_
  refine go_istore (loc2 := [some (aA v0), some (aI v1), some (aL (0 : Int64)), none, some (aI (0 : Int32))]) dX3_slotsTold_3 (by decide) rfl ?_
  exact okl_X3_slotsTold_5 v0 v1 h (0 : Int64) (0 : Int32) H
/-! X3_keepsTo -/
def j_X3_keepsTo_22  (s0 : Int32) (h : Hp) : Option Int32 :=
  (zb s0).bind fun x1 => some x1
set_option maxRecDepth 20000 in
theorem okj_X3_keepsTo_22 {r : Int32}  (s0 : Int32) (h : Hp) (H : j_X3_keepsTo_22 s0 h = some r) : Go M_X3_keepsTo (some (aI r), h) 22 [none, none, none, none, none, none] [aI s0] h := by
  unfold j_X3_keepsTo_22 at H
  obtain ⟨hz, H⟩ := gm_zb H
  obtain rfl := Option.some.inj H
  exact go_ireturn (x := s0) dX3_keepsTo_22 (tyI_bool rfl hz)
def m_X3_keepsTo (v0 : Int64) (v2 : Int64) (v4 : Int64) (h : Hp) : Option Int32 :=
  j_X3_keepsTo_22 (if ¬ (lg_cmp (v0 &&& v2) v2) = 0 then (0 : Int32) else (if ¬ (lg_cmp (v0 &&& v4) (0 : Int64)) = 0 then (0 : Int32) else (1 : Int32))) h
set_option maxRecDepth 20000 in
theorem ok_X3_keepsTo {r : Int32} {v0 : Int64} {v2 : Int64} {v4 : Int64} {h : Hp} (H : m_X3_keepsTo v0 v2 v4 h = some r) : Ev M_X3_keepsTo [aL v0, aL v2, aL v4] h (some (aI r), h) := by
  show Go M_X3_keepsTo (some (aI r), h) 0 [some (aL v0), none, some (aL v2), none, some (aL v4), none] [] h
  unfold m_X3_keepsTo at H
  refine go_lloadn dX3_keepsTo_0 rfl ?_
  refine go_lloadn dX3_keepsTo_1 rfl ?_
  refine go_land dX3_keepsTo_2 ?_
  refine go_lloadn dX3_keepsTo_3 rfl ?_
  refine go_lcmp dX3_keepsTo_4 ?_
  refine go_if_ne (tgt := 21) dX3_keepsTo_5 (by decide) (fun c1 => ?_) (fun c1 => ?_)
  · rw [if_pos c1] at H
    refine go_iconst (v := (0 : Int32)) dX3_keepsTo_21 rfl ?_
    refine go_mask [false, false, false, false, false, false] (loc' := [none, none, none, none, none, none]) rfl ?_
    exact okj_X3_keepsTo_22 (0 : Int32) h  H
  · rw [if_neg c1] at H
    refine go_lloadn dX3_keepsTo_8 rfl ?_
    refine go_lload dX3_keepsTo_9 rfl ?_
    refine go_land dX3_keepsTo_11 ?_
    refine go_lconst (v := (0 : Int64)) dX3_keepsTo_12 rfl ?_
    refine go_lcmp dX3_keepsTo_13 ?_
    refine go_if_ne (tgt := 21) dX3_keepsTo_14 (by decide) (fun c2 => ?_) (fun c2 => ?_)
    · rw [if_pos c2] at H
      refine go_iconst (v := (0 : Int32)) dX3_keepsTo_21 rfl ?_
      refine go_mask [false, false, false, false, false, false] (loc' := [none, none, none, none, none, none]) rfl ?_
      exact okj_X3_keepsTo_22 (0 : Int32) h  H
    · rw [if_neg c2] at H
      refine go_iconst (v := (1 : Int32)) dX3_keepsTo_17 rfl ?_
      refine go_goto (tgt := 22) dX3_keepsTo_18 (by decide) ?_
      refine go_mask [false, false, false, false, false, false] (loc' := [none, none, none, none, none, none]) rfl ?_
      exact okj_X3_keepsTo_22 (1 : Int32) h  H
/-! X3_fitting -/
def j_X3_fitting_50 (v1 : Nat) (v2 : Int64) (v4 : Int64) (v7 : Int32) (s0 : Int32) (s1 : Int32) (h : Hp) (k : Int32 → Int32 → Option Int32) : Option Int32 :=
  k (s0 + s1) (v7 + (1 : Int32))
set_option maxRecDepth 20000 in
theorem okj_X3_fitting_50 {r : Int32} (v1 : Nat) (v2 : Int64) (v4 : Int64) (v7 : Int32) (s0 : Int32) (s1 : Int32) (h : Hp) (k : Int32 → Int32 → Option Int32) (Hk : ∀ (v6q : Int32) (v7q : Int32), k v6q v7q = some r → Go M_X3_fitting (some (aI r), h) 19 [none, some (aA v1), some (aL v2), none, some (aL v4), none, some (aI v6q), some (aI v7q)] [] h) (H : j_X3_fitting_50 v1 v2 v4 v7 s0 s1 h k = some r) : Go M_X3_fitting (some (aI r), h) 50 [none, some (aA v1), some (aL v2), none, some (aL v4), none, none, some (aI v7)] [aI s1, aI s0] h := by
  unfold j_X3_fitting_50 at H
  refine go_iadd dX3_fitting_50 ?_
  refine go_istore (loc2 := [none, some (aA v1), some (aL v2), none, some (aL v4), none, some (aI (s0 + s1)), some (aI v7)]) dX3_fitting_51 (by decide) rfl ?_
  refine go_iinc (v := (v7 + (1 : Int32))) (loc2 := [none, some (aA v1), some (aL v2), none, some (aL v4), none, some (aI (s0 + s1)), some (aI (v7 + (1 : Int32)))]) dX3_fitting_53 rfl rfl (by decide) rfl ?_
  refine go_goto (tgt := 19) dX3_fitting_56 (by decide) ?_
  exact Hk (s0 + s1) (v7 + (1 : Int32)) H
def b_X3_fitting_19 (v1 : Nat) (v2 : Int64) (v4 : Int64) (h : Hp) (k : Int32 → Int32 → Option Int32) (v6 : Int32) (v7 : Int32) : Option Int32 :=
  (gfI h v1 1 2).bind fun x1 => if x1 ≤ v7 then (some v6) else (rc h v1 1 (m_X0_slotsOfWord v1 v7 h)).bind fun x2 => (m_X3_keepsTo x2 v2 v4 h).bind fun x3 => j_X3_fitting_50 v1 v2 v4 v7 v6 (if x3 = 0 then (0 : Int32) else (1 : Int32)) h k
set_option maxRecDepth 20000 in
theorem okb_X3_fitting_19 {r : Int32} (v1 : Nat) (v2 : Int64) (v4 : Int64) (h : Hp) (k : Int32 → Int32 → Option Int32) (v6 : Int32) (v7 : Int32) (Hk : ∀ (v6q : Int32) (v7q : Int32), k v6q v7q = some r → Go M_X3_fitting (some (aI r), h) 19 [none, some (aA v1), some (aL v2), none, some (aL v4), none, some (aI v6q), some (aI v7q)] [] h) (H : b_X3_fitting_19 v1 v2 v4 h k v6 v7 = some r) : Go M_X3_fitting (some (aI r), h) 19 [none, some (aA v1), some (aL v2), none, some (aL v4), none, some (aI v6), some (aI v7)] [] h := by
  unfold b_X3_fitting_19 at H
  refine go_iload dX3_fitting_19 rfl ?_
  refine go_aloadn dX3_fitting_21 rfl ?_
  refine gm_getI fd_X3_55 dX3_fitting_22 H (fun x1 H => ?_)
  refine go_icmp_ge (tgt := 59) dX3_fitting_25 (by decide) (fun c1 => ?_) (fun c1 => ?_)
  · replace H := (gm_ite H).1 c1
    refine go_iload dX3_fitting_59 rfl ?_
    obtain rfl := Option.some.inj H
    exact go_ireturn dX3_fitting_61 (tyI_int rfl)
  · replace H := (gm_ite H).2 c1
    refine go_iload dX3_fitting_28 rfl ?_
    refine go_aloadn dX3_fitting_30 rfl ?_
    refine go_iload dX3_fitting_31 rfl ?_
    obtain ⟨c2, x2, ex2, H⟩ := gm_rc H
    refine go_callV (vs := [aI v7]) (stk := [aI v6]) (o1 := (some (aL x2), h)) mk_X0_slotsOfWord sv_X3_fitting_58 cl_X0 rfl dX3_fitting_33 c2 rfl rfl (Nat.le_of_ble_eq_true rfl) (Nat.le_of_ble_eq_true rfl) (ok_X0_slotsOfWord ex2) (show Go M_X3_fitting (some (aI r), h) 36 [none, some (aA v1), some (aL v2), none, some (aL v4), none, some (aI v6), some (aI v7)] [aL x2, aI v6] h from ?_)
    refine go_lloadn dX3_fitting_36 rfl ?_
    refine go_lload dX3_fitting_37 rfl ?_
    obtain ⟨x3, ex3, H⟩ := bind_some H
    refine go_callS (vs := [aL x2, aL v2, aL v4]) (stk := [aI v6]) (o1 := (some (aI x3), h)) mk_X3_keepsTo ss_X3_fitting_61 dX3_fitting_39 rfl rfl (Nat.le_of_ble_eq_true rfl) (Nat.le_of_ble_eq_true rfl) (ok_X3_keepsTo ex3) (show Go M_X3_fitting (some (aI r), h) 42 [none, some (aA v1), some (aL v2), none, some (aL v4), none, some (aI v6), some (aI v7)] [aI x3, aI v6] h from ?_)
    refine go_if_eq (tgt := 49) dX3_fitting_42 (by decide) (fun c4 => ?_) (fun c4 => ?_)
    · rw [if_pos c4] at H
      refine go_iconst (v := (0 : Int32)) dX3_fitting_49 rfl ?_
      refine go_mask [false, true, true, false, true, false, false, true] (loc' := [none, some (aA v1), some (aL v2), none, some (aL v4), none, none, some (aI v7)]) rfl ?_
      exact okj_X3_fitting_50 v1 v2 v4 v7 v6 (0 : Int32) h k Hk H
    · rw [if_neg c4] at H
      refine go_iconst (v := (1 : Int32)) dX3_fitting_45 rfl ?_
      refine go_goto (tgt := 50) dX3_fitting_46 (by decide) ?_
      refine go_mask [false, true, true, false, true, false, false, true] (loc' := [none, some (aA v1), some (aL v2), none, some (aL v4), none, none, some (aI v7)]) rfl ?_
      exact okj_X3_fitting_50 v1 v2 v4 v7 v6 (1 : Int32) h k Hk H
def l_X3_fitting_19 (v1 : Nat) (v2 : Int64) (v4 : Int64) (h : Hp) (v6 : Int32) (v7 : Int32) : Option Int32 := loopK FUEL (fun (k : Int32 × Int32 → Option Int32) (s : Int32 × Int32) => b_X3_fitting_19 v1 v2 v4 h (fun v6q v7q => k (v6q, v7q)) s.1 s.2) (v6, v7)
theorem okl_X3_fitting_19 {r : Int32} (v1 : Nat) (v2 : Int64) (v4 : Int64) (h : Hp) (v6 : Int32) (v7 : Int32) (H : l_X3_fitting_19 v1 v2 v4 h v6 v7 = some r) : Go M_X3_fitting (some (aI r), h) 19 [none, some (aA v1), some (aL v2), none, some (aL v4), none, some (aI v6), some (aI v7)] [] h := by
  unfold l_X3_fitting_19 at H
  exact go_loop (σ := Int32 × Int32) (body := (fun (k : Int32 × Int32 → Option Int32) (s : Int32 × Int32) => b_X3_fitting_19 v1 v2 v4 h (fun v6q v7q => k (v6q, v7q)) s.1 s.2)) (fun s => [none, some (aA v1), some (aL v2), none, some (aL v4), none, some (aI s.1), some (aI s.2)]) (fun s => h) (fun k s Hk H => okb_X3_fitting_19 v1 v2 v4 h (fun v6q v7q => k (v6q, v7q)) s.1 s.2  (fun v6q v7q H => Hk (v6q, v7q) H) H) FUEL (v6, v7) H
def m_X3_fitting (v0 : Nat) (v1 : Nat) (h : Hp) : Option Int32 :=
  (rc h v0 4 (m_X3_slotsTold v0 (1 : Int32) h)).bind fun x1 => (rc h v0 4 (m_X3_slotsTold v0 (0 : Int32) h)).bind fun x2 => l_X3_fitting_19 v1 x1 x2 h (0 : Int32) (0 : Int32)
set_option maxRecDepth 20000 in
theorem ok_X3_fitting {r : Int32} {v0 : Nat} {v1 : Nat} {h : Hp} (H : m_X3_fitting v0 v1 h = some r) : Ev M_X3_fitting [aA v0, aA v1] h (some (aI r), h) := by
  show Go M_X3_fitting (some (aI r), h) 0 [some (aA v0), some (aA v1), none, none, none, none, none, none] [] h
  unfold m_X3_fitting at H
  refine go_aloadn dX3_fitting_0 rfl ?_
  refine go_iconst (v := (1 : Int32)) dX3_fitting_1 rfl ?_
  obtain ⟨c1, x1, ex1, H⟩ := gm_rc H
  refine go_callV (vs := [aI (1 : Int32)]) (stk := []) (o1 := (some (aL x1), h)) mk_X3_slotsTold sv_X3_fitting_51 cl_X3 rfl dX3_fitting_2 c1 rfl rfl (Nat.le_of_ble_eq_true rfl) (Nat.le_of_ble_eq_true rfl) (ok_X3_slotsTold ex1) (show Go M_X3_fitting (some (aI r), h) 5 [some (aA v0), some (aA v1), none, none, none, none, none, none] [aL x1] h from ?_)
  refine go_lstoren (loc2 := [some (aA v0), some (aA v1), some (aL x1), none, none, none, none, none]) dX3_fitting_5 rfl (by decide) rfl ?_
  refine go_aloadn dX3_fitting_6 rfl ?_
  refine go_iconst (v := (0 : Int32)) dX3_fitting_7 rfl ?_
  obtain ⟨c2, x2, ex2, H⟩ := gm_rc H
  refine go_callV (vs := [aI (0 : Int32)]) (stk := []) (o1 := (some (aL x2), h)) mk_X3_slotsTold sv_X3_fitting_51 cl_X3 rfl dX3_fitting_8 c2 rfl rfl (Nat.le_of_ble_eq_true rfl) (Nat.le_of_ble_eq_true rfl) (ok_X3_slotsTold ex2) (show Go M_X3_fitting (some (aI r), h) 11 [some (aA v0), some (aA v1), some (aL x1), none, none, none, none, none] [aL x2] h from ?_)
  refine go_lstore (loc2 := [some (aA v0), some (aA v1), some (aL x1), none, some (aL x2), none, none, none]) dX3_fitting_11 (by decide) rfl ?_
  refine go_iconst (v := (0 : Int32)) dX3_fitting_13 rfl ?_
  refine go_istore (loc2 := [some (aA v0), some (aA v1), some (aL x1), none, some (aL x2), none, some (aI (0 : Int32)), none]) dX3_fitting_14 (by decide) rfl ?_
  refine go_iconst (v := (0 : Int32)) dX3_fitting_16 rfl ?_
  refine go_istore (loc2 := [some (aA v0), some (aA v1), some (aL x1), none, some (aL x2), none, some (aI (0 : Int32)), some (aI (0 : Int32))]) dX3_fitting_17 (by decide) rfl ?_
  refine go_mask [false, true, true, false, true, false, true, true] (loc' := [none, some (aA v1), some (aL x1), none, some (aL x2), none, some (aI (0 : Int32)), some (aI (0 : Int32))]) rfl ?_
  exact okl_X3_fitting_19 v1 x1 x2 h (0 : Int32) (0 : Int32) H
/-! X5_firstLetter -/
def m_X5_firstLetter (v0 : Int32) (h : Hp) : Option Int32 :=
  some (v0 / (19683 : Int32))
set_option maxRecDepth 20000 in
theorem ok_X5_firstLetter {r : Int32} {v0 : Int32} {h : Hp} (H : m_X5_firstLetter v0 h = some r) : Ev M_X5_firstLetter [aI v0] h (some (aI r), h) := by
  show Go M_X5_firstLetter (some (aI r), h) 0 [some (aI v0)] [] h
  unfold m_X5_firstLetter at H
  refine go_iloadn dX5_firstLetter_0 rfl ?_
  refine go_sipush (v := (19683 : Int32)) dX5_firstLetter_1 rfl ?_
  refine go_idiv dX5_firstLetter_4 (by decide) ?_
  obtain rfl := Option.some.inj H
  exact go_ireturn dX5_firstLetter_5 (tyI_int rfl)
/-! X3_sureLetter -/
def j_X3_sureLetter_73 (v1 : Nat) (v2 : Int64) (v4 : Int64) (v6 : Int32) (v7 : Int32)  (h : Hp) (k : Int32 → Int32 → Option Int32) : Option Int32 :=
  k v6 (v7 + (1 : Int32))
set_option maxRecDepth 20000 in
theorem okj_X3_sureLetter_73 {r : Int32} (v1 : Nat) (v2 : Int64) (v4 : Int64) (v6 : Int32) (v7 : Int32)  (h : Hp) (k : Int32 → Int32 → Option Int32) (Hk : ∀ (v6q : Int32) (v7q : Int32), k v6q v7q = some r → Go M_X3_sureLetter (some (aI r), h) 19 [none, some (aA v1), some (aL v2), none, some (aL v4), none, some (aI v6q), some (aI v7q), none] [] h) (H : j_X3_sureLetter_73 v1 v2 v4 v6 v7 h k = some r) : Go M_X3_sureLetter (some (aI r), h) 73 [none, some (aA v1), some (aL v2), none, some (aL v4), none, some (aI v6), some (aI v7), none] [] h := by
  unfold j_X3_sureLetter_73 at H
  refine go_iinc (v := (v7 + (1 : Int32))) (loc2 := [none, some (aA v1), some (aL v2), none, some (aL v4), none, some (aI v6), some (aI (v7 + (1 : Int32))), none]) dX3_sureLetter_73 rfl rfl (by decide) rfl ?_
  refine go_goto (tgt := 19) dX3_sureLetter_76 (by decide) ?_
  exact Hk v6 (v7 + (1 : Int32)) H
def j_X3_sureLetter_69 (v1 : Nat) (v2 : Int64) (v4 : Int64) (v7 : Int32) (v8 : Int32)  (h : Hp) (k : Int32 → Int32 → Option Int32) : Option Int32 :=
  j_X3_sureLetter_73 v1 v2 v4 v8 v7 h k
set_option maxRecDepth 20000 in
theorem okj_X3_sureLetter_69 {r : Int32} (v1 : Nat) (v2 : Int64) (v4 : Int64) (v7 : Int32) (v8 : Int32)  (h : Hp) (k : Int32 → Int32 → Option Int32) (Hk : ∀ (v6q : Int32) (v7q : Int32), k v6q v7q = some r → Go M_X3_sureLetter (some (aI r), h) 19 [none, some (aA v1), some (aL v2), none, some (aL v4), none, some (aI v6q), some (aI v7q), none] [] h) (H : j_X3_sureLetter_69 v1 v2 v4 v7 v8 h k = some r) : Go M_X3_sureLetter (some (aI r), h) 69 [none, some (aA v1), some (aL v2), none, some (aL v4), none, none, some (aI v7), some (aI v8)] [] h := by
  unfold j_X3_sureLetter_69 at H
  refine go_iload dX3_sureLetter_69 rfl ?_
  refine go_istore (loc2 := [none, some (aA v1), some (aL v2), none, some (aL v4), none, some (aI v8), some (aI v7), some (aI v8)]) dX3_sureLetter_71 (by decide) rfl ?_
  refine go_mask [false, true, true, false, true, false, true, true, false] (loc' := [none, some (aA v1), some (aL v2), none, some (aL v4), none, some (aI v8), some (aI v7), none]) rfl ?_
  exact okj_X3_sureLetter_73 v1 v2 v4 v8 v7 h k Hk H
def b_X3_sureLetter_19 (v1 : Nat) (v2 : Int64) (v4 : Int64) (h : Hp) (k : Int32 → Int32 → Option Int32) (v6 : Int32) (v7 : Int32) : Option Int32 :=
  (gfI h v1 1 2).bind fun x1 => if x1 ≤ v7 then (some v6) else (rc h v1 1 (m_X0_slotsOfWord v1 v7 h)).bind fun x2 => (m_X3_keepsTo x2 v2 v4 h).bind fun x3 => if x3 = 0 then j_X3_sureLetter_73 v1 v2 v4 v6 v7 h k else (rc h v1 1 (m_X0_wordAt v1 v7 h)).bind fun x4 => (m_X5_firstLetter x4 h).bind fun x5 => if v6 = (-1 : Int32) then j_X3_sureLetter_69 v1 v2 v4 v7 x5 h k else if v6 = x5 then j_X3_sureLetter_69 v1 v2 v4 v7 x5 h k else some (-1 : Int32)
set_option maxRecDepth 20000 in
theorem okb_X3_sureLetter_19 {r : Int32} (v1 : Nat) (v2 : Int64) (v4 : Int64) (h : Hp) (k : Int32 → Int32 → Option Int32) (v6 : Int32) (v7 : Int32) (Hk : ∀ (v6q : Int32) (v7q : Int32), k v6q v7q = some r → Go M_X3_sureLetter (some (aI r), h) 19 [none, some (aA v1), some (aL v2), none, some (aL v4), none, some (aI v6q), some (aI v7q), none] [] h) (H : b_X3_sureLetter_19 v1 v2 v4 h k v6 v7 = some r) : Go M_X3_sureLetter (some (aI r), h) 19 [none, some (aA v1), some (aL v2), none, some (aL v4), none, some (aI v6), some (aI v7), none] [] h := by
  unfold b_X3_sureLetter_19 at H
  refine go_iload dX3_sureLetter_19 rfl ?_
  refine go_aloadn dX3_sureLetter_21 rfl ?_
  refine gm_getI fd_X3_55 dX3_sureLetter_22 H (fun x1 H => ?_)
  refine go_icmp_ge (tgt := 79) dX3_sureLetter_25 (by decide) (fun c1 => ?_) (fun c1 => ?_)
  · replace H := (gm_ite H).1 c1
    refine go_iload dX3_sureLetter_79 rfl ?_
    obtain rfl := Option.some.inj H
    exact go_ireturn dX3_sureLetter_81 (tyI_int rfl)
  · replace H := (gm_ite H).2 c1
    refine go_aloadn dX3_sureLetter_28 rfl ?_
    refine go_iload dX3_sureLetter_29 rfl ?_
    obtain ⟨c2, x2, ex2, H⟩ := gm_rc H
    refine go_callV (vs := [aI v7]) (stk := []) (o1 := (some (aL x2), h)) mk_X0_slotsOfWord sv_X3_sureLetter_58 cl_X0 rfl dX3_sureLetter_31 c2 rfl rfl (Nat.le_of_ble_eq_true rfl) (Nat.le_of_ble_eq_true rfl) (ok_X0_slotsOfWord ex2) (show Go M_X3_sureLetter (some (aI r), h) 34 [none, some (aA v1), some (aL v2), none, some (aL v4), none, some (aI v6), some (aI v7), none] [aL x2] h from ?_)
    refine go_lloadn dX3_sureLetter_34 rfl ?_
    refine go_lload dX3_sureLetter_35 rfl ?_
    obtain ⟨x3, ex3, H⟩ := bind_some H
    refine go_callS (vs := [aL x2, aL v2, aL v4]) (stk := []) (o1 := (some (aI x3), h)) mk_X3_keepsTo ss_X3_sureLetter_61 dX3_sureLetter_37 rfl rfl (Nat.le_of_ble_eq_true rfl) (Nat.le_of_ble_eq_true rfl) (ok_X3_keepsTo ex3) (show Go M_X3_sureLetter (some (aI r), h) 40 [none, some (aA v1), some (aL v2), none, some (aL v4), none, some (aI v6), some (aI v7), none] [aI x3] h from ?_)
    refine go_if_eq (tgt := 73) dX3_sureLetter_40 (by decide) (fun c4 => ?_) (fun c4 => ?_)
    · replace H := (gm_ite H).1 c4
      exact okj_X3_sureLetter_73 v1 v2 v4 v6 v7 h k Hk H
    · replace H := (gm_ite H).2 c4
      refine go_aloadn dX3_sureLetter_43 rfl ?_
      refine go_iload dX3_sureLetter_44 rfl ?_
      obtain ⟨c5, x4, ex4, H⟩ := gm_rc H
      refine go_callV (vs := [aI v7]) (stk := []) (o1 := (some (aI x4), h)) mk_X0_wordAt sv_X3_sureLetter_65 cl_X0 rfl dX3_sureLetter_46 c5 rfl rfl (Nat.le_of_ble_eq_true rfl) (Nat.le_of_ble_eq_true rfl) (ok_X0_wordAt ex4) (show Go M_X3_sureLetter (some (aI r), h) 49 [none, some (aA v1), some (aL v2), none, some (aL v4), none, some (aI v6), some (aI v7), none] [aI x4] h from ?_)
      obtain ⟨x5, ex5, H⟩ := bind_some H
      refine go_callS (vs := [aI x4]) (stk := []) (o1 := (some (aI x5), h)) mk_X5_firstLetter ss_X3_sureLetter_71 dX3_sureLetter_49 rfl rfl (Nat.le_of_ble_eq_true rfl) (Nat.le_of_ble_eq_true rfl) (ok_X5_firstLetter ex5) (show Go M_X3_sureLetter (some (aI r), h) 52 [none, some (aA v1), some (aL v2), none, some (aL v4), none, some (aI v6), some (aI v7), none] [aI x5] h from ?_)
      refine go_istore (loc2 := [none, some (aA v1), some (aL v2), none, some (aL v4), none, some (aI v6), some (aI v7), some (aI x5)]) dX3_sureLetter_52 (by decide) rfl ?_
      refine go_iload dX3_sureLetter_54 rfl ?_
      refine go_iconst (v := (-1 : Int32)) dX3_sureLetter_56 rfl ?_
      refine go_icmp_eq (tgt := 69) dX3_sureLetter_57 (by decide) (fun c7 => ?_) (fun c7 => ?_)
      · replace H := (gm_ite H).1 c7
        refine go_mask [false, true, true, false, true, false, false, true, true] (loc' := [none, some (aA v1), some (aL v2), none, some (aL v4), none, none, some (aI v7), some (aI x5)]) rfl ?_
        exact okj_X3_sureLetter_69 v1 v2 v4 v7 x5 h k Hk H
      · replace H := (gm_ite H).2 c7
        refine go_iload dX3_sureLetter_60 rfl ?_
        refine go_iload dX3_sureLetter_62 rfl ?_
        refine go_icmp_eq (tgt := 69) dX3_sureLetter_64 (by decide) (fun c8 => ?_) (fun c8 => ?_)
        · replace H := (gm_ite H).1 c8
          refine go_mask [false, true, true, false, true, false, false, true, true] (loc' := [none, some (aA v1), some (aL v2), none, some (aL v4), none, none, some (aI v7), some (aI x5)]) rfl ?_
          exact okj_X3_sureLetter_69 v1 v2 v4 v7 x5 h k Hk H
        · replace H := (gm_ite H).2 c8
          refine go_iconst (v := (-1 : Int32)) dX3_sureLetter_67 rfl ?_
          obtain rfl := Option.some.inj H
          exact go_ireturn dX3_sureLetter_68 (tyI_int rfl)
def l_X3_sureLetter_19 (v1 : Nat) (v2 : Int64) (v4 : Int64) (h : Hp) (v6 : Int32) (v7 : Int32) : Option Int32 := loopK FUEL (fun (k : Int32 × Int32 → Option Int32) (s : Int32 × Int32) => b_X3_sureLetter_19 v1 v2 v4 h (fun v6q v7q => k (v6q, v7q)) s.1 s.2) (v6, v7)
theorem okl_X3_sureLetter_19 {r : Int32} (v1 : Nat) (v2 : Int64) (v4 : Int64) (h : Hp) (v6 : Int32) (v7 : Int32) (H : l_X3_sureLetter_19 v1 v2 v4 h v6 v7 = some r) : Go M_X3_sureLetter (some (aI r), h) 19 [none, some (aA v1), some (aL v2), none, some (aL v4), none, some (aI v6), some (aI v7), none] [] h := by
  unfold l_X3_sureLetter_19 at H
  exact go_loop (σ := Int32 × Int32) (body := (fun (k : Int32 × Int32 → Option Int32) (s : Int32 × Int32) => b_X3_sureLetter_19 v1 v2 v4 h (fun v6q v7q => k (v6q, v7q)) s.1 s.2)) (fun s => [none, some (aA v1), some (aL v2), none, some (aL v4), none, some (aI s.1), some (aI s.2), none]) (fun s => h) (fun k s Hk H => okb_X3_sureLetter_19 v1 v2 v4 h (fun v6q v7q => k (v6q, v7q)) s.1 s.2  (fun v6q v7q H => Hk (v6q, v7q) H) H) FUEL (v6, v7) H
def m_X3_sureLetter (v0 : Nat) (v1 : Nat) (h : Hp) : Option Int32 :=
  (rc h v0 4 (m_X3_slotsTold v0 (1 : Int32) h)).bind fun x1 => (rc h v0 4 (m_X3_slotsTold v0 (0 : Int32) h)).bind fun x2 => l_X3_sureLetter_19 v1 x1 x2 h (-1 : Int32) (0 : Int32)
set_option maxRecDepth 20000 in
theorem ok_X3_sureLetter {r : Int32} {v0 : Nat} {v1 : Nat} {h : Hp} (H : m_X3_sureLetter v0 v1 h = some r) : Ev M_X3_sureLetter [aA v0, aA v1] h (some (aI r), h) := by
  show Go M_X3_sureLetter (some (aI r), h) 0 [some (aA v0), some (aA v1), none, none, none, none, none, none, none] [] h
  unfold m_X3_sureLetter at H
  refine go_aloadn dX3_sureLetter_0 rfl ?_
  refine go_iconst (v := (1 : Int32)) dX3_sureLetter_1 rfl ?_
  obtain ⟨c1, x1, ex1, H⟩ := gm_rc H
  refine go_callV (vs := [aI (1 : Int32)]) (stk := []) (o1 := (some (aL x1), h)) mk_X3_slotsTold sv_X3_sureLetter_51 cl_X3 rfl dX3_sureLetter_2 c1 rfl rfl (Nat.le_of_ble_eq_true rfl) (Nat.le_of_ble_eq_true rfl) (ok_X3_slotsTold ex1) (show Go M_X3_sureLetter (some (aI r), h) 5 [some (aA v0), some (aA v1), none, none, none, none, none, none, none] [aL x1] h from ?_)
  refine go_lstoren (loc2 := [some (aA v0), some (aA v1), some (aL x1), none, none, none, none, none, none]) dX3_sureLetter_5 rfl (by decide) rfl ?_
  refine go_aloadn dX3_sureLetter_6 rfl ?_
  refine go_iconst (v := (0 : Int32)) dX3_sureLetter_7 rfl ?_
  obtain ⟨c2, x2, ex2, H⟩ := gm_rc H
  refine go_callV (vs := [aI (0 : Int32)]) (stk := []) (o1 := (some (aL x2), h)) mk_X3_slotsTold sv_X3_sureLetter_51 cl_X3 rfl dX3_sureLetter_8 c2 rfl rfl (Nat.le_of_ble_eq_true rfl) (Nat.le_of_ble_eq_true rfl) (ok_X3_slotsTold ex2) (show Go M_X3_sureLetter (some (aI r), h) 11 [some (aA v0), some (aA v1), some (aL x1), none, none, none, none, none, none] [aL x2] h from ?_)
  refine go_lstore (loc2 := [some (aA v0), some (aA v1), some (aL x1), none, some (aL x2), none, none, none, none]) dX3_sureLetter_11 (by decide) rfl ?_
  refine go_iconst (v := (-1 : Int32)) dX3_sureLetter_13 rfl ?_
  refine go_istore (loc2 := [some (aA v0), some (aA v1), some (aL x1), none, some (aL x2), none, some (aI (-1 : Int32)), none, none]) dX3_sureLetter_14 (by decide) rfl ?_
  refine go_iconst (v := (0 : Int32)) dX3_sureLetter_16 rfl ?_
  refine go_istore (loc2 := [some (aA v0), some (aA v1), some (aL x1), none, some (aL x2), none, some (aI (-1 : Int32)), some (aI (0 : Int32)), none]) dX3_sureLetter_17 (by decide) rfl ?_
  refine go_mask [false, true, true, false, true, false, true, true, false] (loc' := [none, some (aA v1), some (aL x1), none, some (aL x2), none, some (aI (-1 : Int32)), some (aI (0 : Int32)), none]) rfl ?_
  exact okl_X3_sureLetter_19 v1 x1 x2 h (-1 : Int32) (0 : Int32) H
/-! X3_fittingIn -/
def j_X3_fittingIn_65 (v1 : Nat) (v2 : Int32) (v3 : Int64) (v5 : Int64) (v8 : Int32) (s0 : Int32) (s1 : Int32) (h : Hp) (k : Int32 → Int32 → Option Int32) : Option Int32 :=
  k (s0 + s1) (v8 + (1 : Int32))
set_option maxRecDepth 20000 in
theorem okj_X3_fittingIn_65 {r : Int32} (v1 : Nat) (v2 : Int32) (v3 : Int64) (v5 : Int64) (v8 : Int32) (s0 : Int32) (s1 : Int32) (h : Hp) (k : Int32 → Int32 → Option Int32) (Hk : ∀ (v7q : Int32) (v8q : Int32), k v7q v8q = some r → Go M_X3_fittingIn (some (aI r), h) 19 [none, some (aA v1), some (aI v2), some (aL v3), none, some (aL v5), none, some (aI v7q), some (aI v8q), none, none] [] h) (H : j_X3_fittingIn_65 v1 v2 v3 v5 v8 s0 s1 h k = some r) : Go M_X3_fittingIn (some (aI r), h) 65 [none, some (aA v1), some (aI v2), some (aL v3), none, some (aL v5), none, none, some (aI v8), none, none] [aI s1, aI s0] h := by
  unfold j_X3_fittingIn_65 at H
  refine go_iadd dX3_fittingIn_65 ?_
  refine go_istore (loc2 := [none, some (aA v1), some (aI v2), some (aL v3), none, some (aL v5), none, some (aI (s0 + s1)), some (aI v8), none, none]) dX3_fittingIn_66 (by decide) rfl ?_
  refine go_iinc (v := (v8 + (1 : Int32))) (loc2 := [none, some (aA v1), some (aI v2), some (aL v3), none, some (aL v5), none, some (aI (s0 + s1)), some (aI (v8 + (1 : Int32))), none, none]) dX3_fittingIn_68 rfl rfl (by decide) rfl ?_
  refine go_goto (tgt := 19) dX3_fittingIn_71 (by decide) ?_
  exact Hk (s0 + s1) (v8 + (1 : Int32)) H
def b_X3_fittingIn_19 (v1 : Nat) (v2 : Int32) (v3 : Int64) (v5 : Int64) (h : Hp) (k : Int32 → Int32 → Option Int32) (v7 : Int32) (v8 : Int32) : Option Int32 :=
  (gfI h v1 1 2).bind fun x1 => if x1 ≤ v8 then (some v7) else (rc h v1 1 (m_X0_slotsOfWord v1 v8 h)).bind fun x2 => if ¬ (lg_cmp ((lushrF x2 v2) &&& (1 : Int64)) (1 : Int64)) = 0 then j_X3_fittingIn_65 v1 v2 v3 v5 v8 v7 (0 : Int32) h k else (m_X3_keepsTo x2 v3 v5 h).bind fun x3 => j_X3_fittingIn_65 v1 v2 v3 v5 v8 v7 (if x3 = 0 then (0 : Int32) else (1 : Int32)) h k
set_option maxRecDepth 20000 in
theorem okb_X3_fittingIn_19 {r : Int32} (v1 : Nat) (v2 : Int32) (v3 : Int64) (v5 : Int64) (h : Hp) (k : Int32 → Int32 → Option Int32) (v7 : Int32) (v8 : Int32) (Hk : ∀ (v7q : Int32) (v8q : Int32), k v7q v8q = some r → Go M_X3_fittingIn (some (aI r), h) 19 [none, some (aA v1), some (aI v2), some (aL v3), none, some (aL v5), none, some (aI v7q), some (aI v8q), none, none] [] h) (H : b_X3_fittingIn_19 v1 v2 v3 v5 h k v7 v8 = some r) : Go M_X3_fittingIn (some (aI r), h) 19 [none, some (aA v1), some (aI v2), some (aL v3), none, some (aL v5), none, some (aI v7), some (aI v8), none, none] [] h := by
  unfold b_X3_fittingIn_19 at H
  refine go_iload dX3_fittingIn_19 rfl ?_
  refine go_aloadn dX3_fittingIn_21 rfl ?_
  refine gm_getI fd_X3_55 dX3_fittingIn_22 H (fun x1 H => ?_)
  refine go_icmp_ge (tgt := 74) dX3_fittingIn_25 (by decide) (fun c1 => ?_) (fun c1 => ?_)
  · replace H := (gm_ite H).1 c1
    refine go_iload dX3_fittingIn_74 rfl ?_
    obtain rfl := Option.some.inj H
    exact go_ireturn dX3_fittingIn_76 (tyI_int rfl)
  · replace H := (gm_ite H).2 c1
    refine go_aloadn dX3_fittingIn_28 rfl ?_
    refine go_iload dX3_fittingIn_29 rfl ?_
    obtain ⟨c2, x2, ex2, H⟩ := gm_rc H
    refine go_callV (vs := [aI v8]) (stk := []) (o1 := (some (aL x2), h)) mk_X0_slotsOfWord sv_X3_fittingIn_58 cl_X0 rfl dX3_fittingIn_31 c2 rfl rfl (Nat.le_of_ble_eq_true rfl) (Nat.le_of_ble_eq_true rfl) (ok_X0_slotsOfWord ex2) (show Go M_X3_fittingIn (some (aI r), h) 34 [none, some (aA v1), some (aI v2), some (aL v3), none, some (aL v5), none, some (aI v7), some (aI v8), none, none] [aL x2] h from ?_)
    refine go_lstore (loc2 := [none, some (aA v1), some (aI v2), some (aL v3), none, some (aL v5), none, some (aI v7), some (aI v8), some (aL x2), none]) dX3_fittingIn_34 (by decide) rfl ?_
    refine go_iload dX3_fittingIn_36 rfl ?_
    refine go_lload dX3_fittingIn_38 rfl ?_
    refine go_iloadn dX3_fittingIn_40 rfl ?_
    refine go_lushr dX3_fittingIn_41 ?_
    refine go_lconst (v := (1 : Int64)) dX3_fittingIn_42 rfl ?_
    refine go_land dX3_fittingIn_43 ?_
    refine go_lconst (v := (1 : Int64)) dX3_fittingIn_44 rfl ?_
    refine go_lcmp dX3_fittingIn_45 ?_
    refine go_if_ne (tgt := 64) dX3_fittingIn_46 (by decide) (fun c3 => ?_) (fun c3 => ?_)
    · replace H := (gm_ite H).1 c3
      refine go_iconst (v := (0 : Int32)) dX3_fittingIn_64 rfl ?_
      refine go_mask [false, true, true, true, false, true, false, false, true, false, false] (loc' := [none, some (aA v1), some (aI v2), some (aL v3), none, some (aL v5), none, none, some (aI v8), none, none]) rfl ?_
      exact okj_X3_fittingIn_65 v1 v2 v3 v5 v8 v7 (0 : Int32) h k Hk H
    · replace H := (gm_ite H).2 c3
      refine go_lload dX3_fittingIn_49 rfl ?_
      refine go_lloadn dX3_fittingIn_51 rfl ?_
      refine go_lload dX3_fittingIn_52 rfl ?_
      obtain ⟨x3, ex3, H⟩ := bind_some H
      refine go_callS (vs := [aL x2, aL v3, aL v5]) (stk := [aI v7]) (o1 := (some (aI x3), h)) mk_X3_keepsTo ss_X3_fittingIn_61 dX3_fittingIn_54 rfl rfl (Nat.le_of_ble_eq_true rfl) (Nat.le_of_ble_eq_true rfl) (ok_X3_keepsTo ex3) (show Go M_X3_fittingIn (some (aI r), h) 57 [none, some (aA v1), some (aI v2), some (aL v3), none, some (aL v5), none, some (aI v7), some (aI v8), some (aL x2), none] [aI x3, aI v7] h from ?_)
      refine go_if_eq (tgt := 64) dX3_fittingIn_57 (by decide) (fun c5 => ?_) (fun c5 => ?_)
      · rw [if_pos c5] at H
        refine go_iconst (v := (0 : Int32)) dX3_fittingIn_64 rfl ?_
        refine go_mask [false, true, true, true, false, true, false, false, true, false, false] (loc' := [none, some (aA v1), some (aI v2), some (aL v3), none, some (aL v5), none, none, some (aI v8), none, none]) rfl ?_
        exact okj_X3_fittingIn_65 v1 v2 v3 v5 v8 v7 (0 : Int32) h k Hk H
      · rw [if_neg c5] at H
        refine go_iconst (v := (1 : Int32)) dX3_fittingIn_60 rfl ?_
        refine go_goto (tgt := 65) dX3_fittingIn_61 (by decide) ?_
        refine go_mask [false, true, true, true, false, true, false, false, true, false, false] (loc' := [none, some (aA v1), some (aI v2), some (aL v3), none, some (aL v5), none, none, some (aI v8), none, none]) rfl ?_
        exact okj_X3_fittingIn_65 v1 v2 v3 v5 v8 v7 (1 : Int32) h k Hk H
def l_X3_fittingIn_19 (v1 : Nat) (v2 : Int32) (v3 : Int64) (v5 : Int64) (h : Hp) (v7 : Int32) (v8 : Int32) : Option Int32 := loopK FUEL (fun (k : Int32 × Int32 → Option Int32) (s : Int32 × Int32) => b_X3_fittingIn_19 v1 v2 v3 v5 h (fun v7q v8q => k (v7q, v8q)) s.1 s.2) (v7, v8)
theorem okl_X3_fittingIn_19 {r : Int32} (v1 : Nat) (v2 : Int32) (v3 : Int64) (v5 : Int64) (h : Hp) (v7 : Int32) (v8 : Int32) (H : l_X3_fittingIn_19 v1 v2 v3 v5 h v7 v8 = some r) : Go M_X3_fittingIn (some (aI r), h) 19 [none, some (aA v1), some (aI v2), some (aL v3), none, some (aL v5), none, some (aI v7), some (aI v8), none, none] [] h := by
  unfold l_X3_fittingIn_19 at H
  exact go_loop (σ := Int32 × Int32) (body := (fun (k : Int32 × Int32 → Option Int32) (s : Int32 × Int32) => b_X3_fittingIn_19 v1 v2 v3 v5 h (fun v7q v8q => k (v7q, v8q)) s.1 s.2)) (fun s => [none, some (aA v1), some (aI v2), some (aL v3), none, some (aL v5), none, some (aI s.1), some (aI s.2), none, none]) (fun s => h) (fun k s Hk H => okb_X3_fittingIn_19 v1 v2 v3 v5 h (fun v7q v8q => k (v7q, v8q)) s.1 s.2  (fun v7q v8q H => Hk (v7q, v8q) H) H) FUEL (v7, v8) H
def m_X3_fittingIn (v0 : Nat) (v1 : Nat) (v2 : Int32) (h : Hp) : Option Int32 :=
  (rc h v0 4 (m_X3_slotsTold v0 (1 : Int32) h)).bind fun x1 => (rc h v0 4 (m_X3_slotsTold v0 (0 : Int32) h)).bind fun x2 => l_X3_fittingIn_19 v1 v2 x1 x2 h (0 : Int32) (0 : Int32)
set_option maxRecDepth 20000 in
theorem ok_X3_fittingIn {r : Int32} {v0 : Nat} {v1 : Nat} {v2 : Int32} {h : Hp} (H : m_X3_fittingIn v0 v1 v2 h = some r) : Ev M_X3_fittingIn [aA v0, aA v1, aI v2] h (some (aI r), h) := by
  show Go M_X3_fittingIn (some (aI r), h) 0 [some (aA v0), some (aA v1), some (aI v2), none, none, none, none, none, none, none, none] [] h
  unfold m_X3_fittingIn at H
  refine go_aloadn dX3_fittingIn_0 rfl ?_
  refine go_iconst (v := (1 : Int32)) dX3_fittingIn_1 rfl ?_
  obtain ⟨c1, x1, ex1, H⟩ := gm_rc H
  refine go_callV (vs := [aI (1 : Int32)]) (stk := []) (o1 := (some (aL x1), h)) mk_X3_slotsTold sv_X3_fittingIn_51 cl_X3 rfl dX3_fittingIn_2 c1 rfl rfl (Nat.le_of_ble_eq_true rfl) (Nat.le_of_ble_eq_true rfl) (ok_X3_slotsTold ex1) (show Go M_X3_fittingIn (some (aI r), h) 5 [some (aA v0), some (aA v1), some (aI v2), none, none, none, none, none, none, none, none] [aL x1] h from ?_)
  refine go_lstoren (loc2 := [some (aA v0), some (aA v1), some (aI v2), some (aL x1), none, none, none, none, none, none, none]) dX3_fittingIn_5 rfl (by decide) rfl ?_
  refine go_aloadn dX3_fittingIn_6 rfl ?_
  refine go_iconst (v := (0 : Int32)) dX3_fittingIn_7 rfl ?_
  obtain ⟨c2, x2, ex2, H⟩ := gm_rc H
  refine go_callV (vs := [aI (0 : Int32)]) (stk := []) (o1 := (some (aL x2), h)) mk_X3_slotsTold sv_X3_fittingIn_51 cl_X3 rfl dX3_fittingIn_8 c2 rfl rfl (Nat.le_of_ble_eq_true rfl) (Nat.le_of_ble_eq_true rfl) (ok_X3_slotsTold ex2) (show Go M_X3_fittingIn (some (aI r), h) 11 [some (aA v0), some (aA v1), some (aI v2), some (aL x1), none, none, none, none, none, none, none] [aL x2] h from ?_)
  refine go_lstore (loc2 := [some (aA v0), some (aA v1), some (aI v2), some (aL x1), none, some (aL x2), none, none, none, none, none]) dX3_fittingIn_11 (by decide) rfl ?_
  refine go_iconst (v := (0 : Int32)) dX3_fittingIn_13 rfl ?_
  refine go_istore (loc2 := [some (aA v0), some (aA v1), some (aI v2), some (aL x1), none, some (aL x2), none, some (aI (0 : Int32)), none, none, none]) dX3_fittingIn_14 (by decide) rfl ?_
  refine go_iconst (v := (0 : Int32)) dX3_fittingIn_16 rfl ?_
  refine go_istore (loc2 := [some (aA v0), some (aA v1), some (aI v2), some (aL x1), none, some (aL x2), none, some (aI (0 : Int32)), some (aI (0 : Int32)), none, none]) dX3_fittingIn_17 (by decide) rfl ?_
  refine go_mask [false, true, true, true, false, true, false, true, true, false, false] (loc' := [none, some (aA v1), some (aI v2), some (aL x1), none, some (aL x2), none, some (aI (0 : Int32)), some (aI (0 : Int32)), none, none]) rfl ?_
  exact okl_X3_fittingIn_19 v1 v2 x1 x2 h (0 : Int32) (0 : Int32) H
/-! X3_askVersion -/
def j_X3_askVersion_95 (v0 : Nat) (v1 : Nat) (v2 : Int32) (v3 : Int32) (v4 : Int32) (v5 : Int32)  (h : Hp) (k : Int32 → Int32 → Int32 → Option Int32) : Option Int32 :=
  k v3 v4 (v5 + (1 : Int32))
set_option maxRecDepth 20000 in
theorem okj_X3_askVersion_95 {r : Int32} (v0 : Nat) (v1 : Nat) (v2 : Int32) (v3 : Int32) (v4 : Int32) (v5 : Int32)  (h : Hp) (k : Int32 → Int32 → Int32 → Option Int32) (Hk : ∀ (v3q : Int32) (v4q : Int32) (v5q : Int32), k v3q v4q v5q = some r → Go M_X3_askVersion (some (aI r), h) 14 [some (aA v0), some (aA v1), some (aI v2), some (aI v3q), some (aI v4q), some (aI v5q), none, none, none, none] [] h) (H : j_X3_askVersion_95 v0 v1 v2 v3 v4 v5 h k = some r) : Go M_X3_askVersion (some (aI r), h) 95 [some (aA v0), some (aA v1), some (aI v2), some (aI v3), some (aI v4), some (aI v5), none, none, none, none] [] h := by
  unfold j_X3_askVersion_95 at H
  refine go_iinc (v := (v5 + (1 : Int32))) (loc2 := [some (aA v0), some (aA v1), some (aI v2), some (aI v3), some (aI v4), some (aI (v5 + (1 : Int32))), none, none, none, none]) dX3_askVersion_95 rfl rfl (by decide) rfl ?_
  refine go_goto (tgt := 14) dX3_askVersion_98 (by decide) ?_
  exact Hk v3 v4 (v5 + (1 : Int32)) H
def j_X3_askVersion_82 (v0 : Nat) (v1 : Nat) (v2 : Int32) (v5 : Int32) (v6 : Int32) (v7 : Int32) (v9 : Int32)  (h : Hp) (k : Int32 → Int32 → Int32 → Option Int32) : Option Int32 :=
  j_X3_askVersion_95 v0 v1 v2 (((10 : Int32) * v6) + v7) v9 v5 h k
set_option maxRecDepth 20000 in
theorem okj_X3_askVersion_82 {r : Int32} (v0 : Nat) (v1 : Nat) (v2 : Int32) (v5 : Int32) (v6 : Int32) (v7 : Int32) (v9 : Int32)  (h : Hp) (k : Int32 → Int32 → Int32 → Option Int32) (Hk : ∀ (v3q : Int32) (v4q : Int32) (v5q : Int32), k v3q v4q v5q = some r → Go M_X3_askVersion (some (aI r), h) 14 [some (aA v0), some (aA v1), some (aI v2), some (aI v3q), some (aI v4q), some (aI v5q), none, none, none, none] [] h) (H : j_X3_askVersion_82 v0 v1 v2 v5 v6 v7 v9 h k = some r) : Go M_X3_askVersion (some (aI r), h) 82 [some (aA v0), some (aA v1), some (aI v2), none, none, some (aI v5), some (aI v6), some (aI v7), none, some (aI v9)] [] h := by
  unfold j_X3_askVersion_82 at H
  refine go_bipush (v := (10 : Int32)) dX3_askVersion_82 rfl ?_
  refine go_iload dX3_askVersion_84 rfl ?_
  refine go_imul dX3_askVersion_86 ?_
  refine go_iload dX3_askVersion_87 rfl ?_
  refine go_iadd dX3_askVersion_89 ?_
  refine go_istoren (loc2 := [some (aA v0), some (aA v1), some (aI v2), some (aI (((10 : Int32) * v6) + v7)), none, some (aI v5), some (aI v6), some (aI v7), none, some (aI v9)]) dX3_askVersion_90 rfl (by decide) rfl ?_
  refine go_iload dX3_askVersion_91 rfl ?_
  refine go_istore (loc2 := [some (aA v0), some (aA v1), some (aI v2), some (aI (((10 : Int32) * v6) + v7)), some (aI v9), some (aI v5), some (aI v6), some (aI v7), none, some (aI v9)]) dX3_askVersion_93 (by decide) rfl ?_
  refine go_mask [true, true, true, true, true, true, false, false, false, false] (loc' := [some (aA v0), some (aA v1), some (aI v2), some (aI (((10 : Int32) * v6) + v7)), some (aI v9), some (aI v5), none, none, none, none]) rfl ?_
  exact okj_X3_askVersion_95 v0 v1 v2 (((10 : Int32) * v6) + v7) v9 v5 h k Hk H
def b_X3_askVersion_14 (v0 : Nat) (v1 : Nat) (v2 : Int32) (h : Hp) (k : Int32 → Int32 → Int32 → Option Int32) (v3 : Int32) (v4 : Int32) (v5 : Int32) : Option Int32 :=
  if (40 : Int32) ≤ v5 then (some v3) else if v2 ≤ 0 then (some v3) else (rc h v1 1 (m_X0_hasVersion v1 (v5 / (10 : Int32)) (iremF v5 (10 : Int32)) h)).bind fun x1 => if x1 = 0 then j_X3_askVersion_95 v0 v1 v2 v3 v4 v5 h k else (rc h v0 4 (m_X3_fittingIn v0 v1 v5 h)).bind fun x2 => (m_J9_max_7cf53 x2 (v2 - x2) h).bind fun x3 => if v3 = (-1 : Int32) then j_X3_askVersion_82 v0 v1 v2 v5 (v5 / (10 : Int32)) (iremF v5 (10 : Int32)) x3 h k else if v4 ≤ x3 then j_X3_askVersion_95 v0 v1 v2 v3 v4 v5 h k else j_X3_askVersion_82 v0 v1 v2 v5 (v5 / (10 : Int32)) (iremF v5 (10 : Int32)) x3 h k
set_option maxRecDepth 20000 in
theorem okb_X3_askVersion_14 {r : Int32} (v0 : Nat) (v1 : Nat) (v2 : Int32) (h : Hp) (k : Int32 → Int32 → Int32 → Option Int32) (v3 : Int32) (v4 : Int32) (v5 : Int32) (Hk : ∀ (v3q : Int32) (v4q : Int32) (v5q : Int32), k v3q v4q v5q = some r → Go M_X3_askVersion (some (aI r), h) 14 [some (aA v0), some (aA v1), some (aI v2), some (aI v3q), some (aI v4q), some (aI v5q), none, none, none, none] [] h) (H : b_X3_askVersion_14 v0 v1 v2 h k v3 v4 v5 = some r) : Go M_X3_askVersion (some (aI r), h) 14 [some (aA v0), some (aA v1), some (aI v2), some (aI v3), some (aI v4), some (aI v5), none, none, none, none] [] h := by
  unfold b_X3_askVersion_14 at H
  refine go_iload dX3_askVersion_14 rfl ?_
  refine go_bipush (v := (40 : Int32)) dX3_askVersion_16 rfl ?_
  refine go_icmp_ge (tgt := 101) dX3_askVersion_18 (by decide) (fun c1 => ?_) (fun c1 => ?_)
  · replace H := (gm_ite H).1 c1
    refine go_iloadn dX3_askVersion_101 rfl ?_
    obtain rfl := Option.some.inj H
    exact go_ireturn dX3_askVersion_102 (tyI_int rfl)
  · replace H := (gm_ite H).2 c1
    refine go_iloadn dX3_askVersion_21 rfl ?_
    refine go_if_le (tgt := 101) dX3_askVersion_22 (by decide) (fun c2 => ?_) (fun c2 => ?_)
    · replace H := (gm_ite H).1 c2
      refine go_iloadn dX3_askVersion_101 rfl ?_
      obtain rfl := Option.some.inj H
      exact go_ireturn dX3_askVersion_102 (tyI_int rfl)
    · replace H := (gm_ite H).2 c2
      refine go_iload dX3_askVersion_25 rfl ?_
      refine go_bipush (v := (10 : Int32)) dX3_askVersion_27 rfl ?_
      refine go_idiv dX3_askVersion_29 (by decide) ?_
      refine go_istore (loc2 := [some (aA v0), some (aA v1), some (aI v2), some (aI v3), some (aI v4), some (aI v5), some (aI (v5 / (10 : Int32))), none, none, none]) dX3_askVersion_30 (by decide) rfl ?_
      refine go_iload dX3_askVersion_32 rfl ?_
      refine go_bipush (v := (10 : Int32)) dX3_askVersion_34 rfl ?_
      refine go_irem dX3_askVersion_36 (by decide) ?_
      refine go_istore (loc2 := [some (aA v0), some (aA v1), some (aI v2), some (aI v3), some (aI v4), some (aI v5), some (aI (v5 / (10 : Int32))), some (aI (iremF v5 (10 : Int32))), none, none]) dX3_askVersion_37 (by decide) rfl ?_
      refine go_aloadn dX3_askVersion_39 rfl ?_
      refine go_iload dX3_askVersion_40 rfl ?_
      refine go_iload dX3_askVersion_42 rfl ?_
      obtain ⟨c3, x1, ex1, H⟩ := gm_rc H
      refine go_callV (vs := [aI (v5 / (10 : Int32)), aI (iremF v5 (10 : Int32))]) (stk := []) (o1 := (some (aI x1), h)) mk_X0_hasVersion sv_X3_askVersion_78 cl_X0 rfl dX3_askVersion_44 c3 rfl rfl (Nat.le_of_ble_eq_true rfl) (Nat.le_of_ble_eq_true rfl) (ok_X0_hasVersion ex1) (show Go M_X3_askVersion (some (aI r), h) 47 [some (aA v0), some (aA v1), some (aI v2), some (aI v3), some (aI v4), some (aI v5), some (aI (v5 / (10 : Int32))), some (aI (iremF v5 (10 : Int32))), none, none] [aI x1] h from ?_)
      refine go_if_eq (tgt := 95) dX3_askVersion_47 (by decide) (fun c4 => ?_) (fun c4 => ?_)
      · replace H := (gm_ite H).1 c4
        refine go_mask [true, true, true, true, true, true, false, false, false, false] (loc' := [some (aA v0), some (aA v1), some (aI v2), some (aI v3), some (aI v4), some (aI v5), none, none, none, none]) rfl ?_
        exact okj_X3_askVersion_95 v0 v1 v2 v3 v4 v5 h k Hk H
      · replace H := (gm_ite H).2 c4
        refine go_aloadn dX3_askVersion_50 rfl ?_
        refine go_aloadn dX3_askVersion_51 rfl ?_
        refine go_iload dX3_askVersion_52 rfl ?_
        obtain ⟨c5, x2, ex2, H⟩ := gm_rc H
        refine go_callV (vs := [aA v1, aI v5]) (stk := []) (o1 := (some (aI x2), h)) mk_X3_fittingIn sv_X3_askVersion_82 cl_X3 rfl dX3_askVersion_54 c5 rfl rfl (Nat.le_of_ble_eq_true rfl) (Nat.le_of_ble_eq_true rfl) (ok_X3_fittingIn ex2) (show Go M_X3_askVersion (some (aI r), h) 57 [some (aA v0), some (aA v1), some (aI v2), some (aI v3), some (aI v4), some (aI v5), some (aI (v5 / (10 : Int32))), some (aI (iremF v5 (10 : Int32))), none, none] [aI x2] h from ?_)
        refine go_istore (loc2 := [some (aA v0), some (aA v1), some (aI v2), some (aI v3), some (aI v4), some (aI v5), some (aI (v5 / (10 : Int32))), some (aI (iremF v5 (10 : Int32))), some (aI x2), none]) dX3_askVersion_57 (by decide) rfl ?_
        refine go_iload dX3_askVersion_59 rfl ?_
        refine go_iloadn dX3_askVersion_61 rfl ?_
        refine go_iload dX3_askVersion_62 rfl ?_
        refine go_isub dX3_askVersion_64 ?_
        obtain ⟨x3, ex3, H⟩ := bind_some H
        refine go_callS (vs := [aI x2, aI (v2 - x2)]) (stk := []) (o1 := (some (aI x3), h)) mk_J9_max_7cf53 ss_X3_askVersion_86 dX3_askVersion_65 rfl rfl (Nat.le_of_ble_eq_true rfl) (Nat.le_of_ble_eq_true rfl) (ok_J9_max_7cf53 ex3) (show Go M_X3_askVersion (some (aI r), h) 68 [some (aA v0), some (aA v1), some (aI v2), some (aI v3), some (aI v4), some (aI v5), some (aI (v5 / (10 : Int32))), some (aI (iremF v5 (10 : Int32))), some (aI x2), none] [aI x3] h from ?_)
        refine go_istore (loc2 := [some (aA v0), some (aA v1), some (aI v2), some (aI v3), some (aI v4), some (aI v5), some (aI (v5 / (10 : Int32))), some (aI (iremF v5 (10 : Int32))), some (aI x2), some (aI x3)]) dX3_askVersion_68 (by decide) rfl ?_
        refine go_iloadn dX3_askVersion_70 rfl ?_
        refine go_iconst (v := (-1 : Int32)) dX3_askVersion_71 rfl ?_
        refine go_icmp_eq (tgt := 82) dX3_askVersion_72 (by decide) (fun c7 => ?_) (fun c7 => ?_)
        · replace H := (gm_ite H).1 c7
          refine go_mask [true, true, true, false, false, true, true, true, false, true] (loc' := [some (aA v0), some (aA v1), some (aI v2), none, none, some (aI v5), some (aI (v5 / (10 : Int32))), some (aI (iremF v5 (10 : Int32))), none, some (aI x3)]) rfl ?_
          exact okj_X3_askVersion_82 v0 v1 v2 v5 (v5 / (10 : Int32)) (iremF v5 (10 : Int32)) x3 h k Hk H
        · replace H := (gm_ite H).2 c7
          refine go_iload dX3_askVersion_75 rfl ?_
          refine go_iload dX3_askVersion_77 rfl ?_
          refine go_icmp_ge (tgt := 95) dX3_askVersion_79 (by decide) (fun c8 => ?_) (fun c8 => ?_)
          · replace H := (gm_ite H).1 c8
            refine go_mask [true, true, true, true, true, true, false, false, false, false] (loc' := [some (aA v0), some (aA v1), some (aI v2), some (aI v3), some (aI v4), some (aI v5), none, none, none, none]) rfl ?_
            exact okj_X3_askVersion_95 v0 v1 v2 v3 v4 v5 h k Hk H
          · replace H := (gm_ite H).2 c8
            refine go_mask [true, true, true, false, false, true, true, true, false, true] (loc' := [some (aA v0), some (aA v1), some (aI v2), none, none, some (aI v5), some (aI (v5 / (10 : Int32))), some (aI (iremF v5 (10 : Int32))), none, some (aI x3)]) rfl ?_
            exact okj_X3_askVersion_82 v0 v1 v2 v5 (v5 / (10 : Int32)) (iremF v5 (10 : Int32)) x3 h k Hk H
def l_X3_askVersion_14 (v0 : Nat) (v1 : Nat) (v2 : Int32) (h : Hp) (v3 : Int32) (v4 : Int32) (v5 : Int32) : Option Int32 := loopK FUEL (fun (k : Int32 × Int32 × Int32 → Option Int32) (s : Int32 × Int32 × Int32) => b_X3_askVersion_14 v0 v1 v2 h (fun v3q v4q v5q => k (v3q, v4q, v5q)) s.1 s.2.1 s.2.2) (v3, v4, v5)
theorem okl_X3_askVersion_14 {r : Int32} (v0 : Nat) (v1 : Nat) (v2 : Int32) (h : Hp) (v3 : Int32) (v4 : Int32) (v5 : Int32) (H : l_X3_askVersion_14 v0 v1 v2 h v3 v4 v5 = some r) : Go M_X3_askVersion (some (aI r), h) 14 [some (aA v0), some (aA v1), some (aI v2), some (aI v3), some (aI v4), some (aI v5), none, none, none, none] [] h := by
  unfold l_X3_askVersion_14 at H
  exact go_loop (σ := Int32 × Int32 × Int32) (body := (fun (k : Int32 × Int32 × Int32 → Option Int32) (s : Int32 × Int32 × Int32) => b_X3_askVersion_14 v0 v1 v2 h (fun v3q v4q v5q => k (v3q, v4q, v5q)) s.1 s.2.1 s.2.2)) (fun s => [some (aA v0), some (aA v1), some (aI v2), some (aI s.1), some (aI s.2.1), some (aI s.2.2), none, none, none, none]) (fun s => h) (fun k s Hk H => okb_X3_askVersion_14 v0 v1 v2 h (fun v3q v4q v5q => k (v3q, v4q, v5q)) s.1 s.2.1 s.2.2  (fun v3q v4q v5q H => Hk (v3q, v4q, v5q) H) H) FUEL (v3, v4, v5) H
def m_X3_askVersion (v0 : Nat) (v1 : Nat) (h : Hp) : Option Int32 :=
  (rc h v0 4 (m_X3_fitting v0 v1 h)).bind fun x1 => l_X3_askVersion_14 v0 v1 x1 h (-1 : Int32) x1 (0 : Int32)
set_option maxRecDepth 20000 in
theorem ok_X3_askVersion {r : Int32} {v0 : Nat} {v1 : Nat} {h : Hp} (H : m_X3_askVersion v0 v1 h = some r) : Ev M_X3_askVersion [aA v0, aA v1] h (some (aI r), h) := by
  show Go M_X3_askVersion (some (aI r), h) 0 [some (aA v0), some (aA v1), none, none, none, none, none, none, none, none] [] h
  unfold m_X3_askVersion at H
  refine go_aloadn dX3_askVersion_0 rfl ?_
  refine go_aloadn dX3_askVersion_1 rfl ?_
  obtain ⟨c1, x1, ex1, H⟩ := gm_rc H
  refine go_callV (vs := [aA v1]) (stk := []) (o1 := (some (aI x1), h)) mk_X3_fitting sv_X3_askVersion_74 cl_X3 rfl dX3_askVersion_2 c1 rfl rfl (Nat.le_of_ble_eq_true rfl) (Nat.le_of_ble_eq_true rfl) (ok_X3_fitting ex1) (show Go M_X3_askVersion (some (aI r), h) 5 [some (aA v0), some (aA v1), none, none, none, none, none, none, none, none] [aI x1] h from ?_)
  refine go_istoren (loc2 := [some (aA v0), some (aA v1), some (aI x1), none, none, none, none, none, none, none]) dX3_askVersion_5 rfl (by decide) rfl ?_
  refine go_iconst (v := (-1 : Int32)) dX3_askVersion_6 rfl ?_
  refine go_istoren (loc2 := [some (aA v0), some (aA v1), some (aI x1), some (aI (-1 : Int32)), none, none, none, none, none, none]) dX3_askVersion_7 rfl (by decide) rfl ?_
  refine go_iloadn dX3_askVersion_8 rfl ?_
  refine go_istore (loc2 := [some (aA v0), some (aA v1), some (aI x1), some (aI (-1 : Int32)), some (aI x1), none, none, none, none, none]) dX3_askVersion_9 (by decide) rfl ?_
  refine go_iconst (v := (0 : Int32)) dX3_askVersion_11 rfl ?_
  refine go_istore (loc2 := [some (aA v0), some (aA v1), some (aI x1), some (aI (-1 : Int32)), some (aI x1), some (aI (0 : Int32)), none, none, none, none]) dX3_askVersion_12 (by decide) rfl ?_
  exact okl_X3_askVersion_14 v0 v1 x1 h (-1 : Int32) x1 (0 : Int32) H
/-! X3_fittingAt -/
def j_X3_fittingAt_62 (v1 : Nat) (v2 : Int32) (v3 : Int64) (v5 : Int64) (v7 : Int32) (v8 : Int32)  (h : Hp) (K49 : Int32 → Option Int32) (k : Int32 → Int32 → Option Int32) : Option Int32 :=
  k v7 (v8 + (1 : Int32))
set_option maxRecDepth 20000 in
theorem okj_X3_fittingAt_62 {r : Int32} (v1 : Nat) (v2 : Int32) (v3 : Int64) (v5 : Int64) (v7 : Int32) (v8 : Int32)  (h : Hp) (K49 : Int32 → Option Int32) (k : Int32 → Int32 → Option Int32) (HK49 : ∀ (v8q : Int32) , K49 v8q = some r → Go M_X3_fittingAt (some (aI r), h) 49 [none, some (aA v1), none, none, none, none, none, none, some (aI v8q)] [] h) (Hk : ∀ (v7q : Int32) (v8q : Int32), k v7q v8q = some r → Go M_X3_fittingAt (some (aI r), h) 19 [none, some (aA v1), some (aI v2), some (aL v3), none, some (aL v5), none, some (aI v7q), some (aI v8q)] [] h) (H : j_X3_fittingAt_62 v1 v2 v3 v5 v7 v8 h K49 k = some r) : Go M_X3_fittingAt (some (aI r), h) 62 [none, some (aA v1), some (aI v2), some (aL v3), none, some (aL v5), none, some (aI v7), some (aI v8)] [] h := by
  unfold j_X3_fittingAt_62 at H
  refine go_iinc (v := (v8 + (1 : Int32))) (loc2 := [none, some (aA v1), some (aI v2), some (aL v3), none, some (aL v5), none, some (aI v7), some (aI (v8 + (1 : Int32)))]) dX3_fittingAt_62 rfl rfl (by decide) rfl ?_
  refine go_goto (tgt := 19) dX3_fittingAt_65 (by decide) ?_
  exact Hk v7 (v8 + (1 : Int32)) H
def b_X3_fittingAt_19 (v1 : Nat) (v2 : Int32) (v3 : Int64) (v5 : Int64) (h : Hp) (K49 : Int32 → Option Int32) (k : Int32 → Int32 → Option Int32) (v7 : Int32) (v8 : Int32) : Option Int32 :=
  (gfI h v1 1 2).bind fun x1 => if x1 ≤ v8 then (some (-2 : Int32)) else (rc h v1 1 (m_X0_slotsOfWord v1 v8 h)).bind fun x2 => (m_X3_keepsTo x2 v3 v5 h).bind fun x3 => if x3 = 0 then j_X3_fittingAt_62 v1 v2 v3 v5 v7 v8 h K49 k else if ¬ v7 = v2 then (j_X3_fittingAt_62 v1 v2 v3 v5 (v7 + (1 : Int32)) v8 h K49 k) else K49 v8
set_option maxRecDepth 20000 in
theorem okb_X3_fittingAt_19 {r : Int32} (v1 : Nat) (v2 : Int32) (v3 : Int64) (v5 : Int64) (h : Hp) (K49 : Int32 → Option Int32) (k : Int32 → Int32 → Option Int32) (v7 : Int32) (v8 : Int32) (HK49 : ∀ (v8q : Int32) , K49 v8q = some r → Go M_X3_fittingAt (some (aI r), h) 49 [none, some (aA v1), none, none, none, none, none, none, some (aI v8q)] [] h) (Hk : ∀ (v7q : Int32) (v8q : Int32), k v7q v8q = some r → Go M_X3_fittingAt (some (aI r), h) 19 [none, some (aA v1), some (aI v2), some (aL v3), none, some (aL v5), none, some (aI v7q), some (aI v8q)] [] h) (H : b_X3_fittingAt_19 v1 v2 v3 v5 h K49 k v7 v8 = some r) : Go M_X3_fittingAt (some (aI r), h) 19 [none, some (aA v1), some (aI v2), some (aL v3), none, some (aL v5), none, some (aI v7), some (aI v8)] [] h := by
  unfold b_X3_fittingAt_19 at H
  refine go_iload dX3_fittingAt_19 rfl ?_
  refine go_aloadn dX3_fittingAt_21 rfl ?_
  refine gm_getI fd_X3_55 dX3_fittingAt_22 H (fun x1 H => ?_)
  refine go_icmp_ge (tgt := 68) dX3_fittingAt_25 (by decide) (fun c1 => ?_) (fun c1 => ?_)
  · replace H := (gm_ite H).1 c1
    refine go_bipush (v := (-2 : Int32)) dX3_fittingAt_68 rfl ?_
    obtain rfl := Option.some.inj H
    exact go_ireturn dX3_fittingAt_70 (tyI_int rfl)
  · replace H := (gm_ite H).2 c1
    refine go_aloadn dX3_fittingAt_28 rfl ?_
    refine go_iload dX3_fittingAt_29 rfl ?_
    obtain ⟨c2, x2, ex2, H⟩ := gm_rc H
    refine go_callV (vs := [aI v8]) (stk := []) (o1 := (some (aL x2), h)) mk_X0_slotsOfWord sv_X3_fittingAt_58 cl_X0 rfl dX3_fittingAt_31 c2 rfl rfl (Nat.le_of_ble_eq_true rfl) (Nat.le_of_ble_eq_true rfl) (ok_X0_slotsOfWord ex2) (show Go M_X3_fittingAt (some (aI r), h) 34 [none, some (aA v1), some (aI v2), some (aL v3), none, some (aL v5), none, some (aI v7), some (aI v8)] [aL x2] h from ?_)
    refine go_lloadn dX3_fittingAt_34 rfl ?_
    refine go_lload dX3_fittingAt_35 rfl ?_
    obtain ⟨x3, ex3, H⟩ := bind_some H
    refine go_callS (vs := [aL x2, aL v3, aL v5]) (stk := []) (o1 := (some (aI x3), h)) mk_X3_keepsTo ss_X3_fittingAt_61 dX3_fittingAt_37 rfl rfl (Nat.le_of_ble_eq_true rfl) (Nat.le_of_ble_eq_true rfl) (ok_X3_keepsTo ex3) (show Go M_X3_fittingAt (some (aI r), h) 40 [none, some (aA v1), some (aI v2), some (aL v3), none, some (aL v5), none, some (aI v7), some (aI v8)] [aI x3] h from ?_)
    refine go_if_eq (tgt := 62) dX3_fittingAt_40 (by decide) (fun c4 => ?_) (fun c4 => ?_)
    · replace H := (gm_ite H).1 c4
      exact okj_X3_fittingAt_62 v1 v2 v3 v5 v7 v8 h K49 k HK49 Hk H
    · replace H := (gm_ite H).2 c4
      refine go_iload dX3_fittingAt_43 rfl ?_
      refine go_iloadn dX3_fittingAt_45 rfl ?_
      refine go_icmp_ne (tgt := 59) dX3_fittingAt_46 (by decide) (fun c5 => ?_) (fun c5 => ?_)
      · replace H := (gm_ite H).1 c5
        refine go_iinc (v := (v7 + (1 : Int32))) (loc2 := [none, some (aA v1), some (aI v2), some (aL v3), none, some (aL v5), none, some (aI (v7 + (1 : Int32))), some (aI v8)]) dX3_fittingAt_59 rfl rfl (by decide) rfl ?_
        exact okj_X3_fittingAt_62 v1 v2 v3 v5 (v7 + (1 : Int32)) v8 h K49 k HK49 Hk H
      · replace H := (gm_ite H).2 c5
        refine go_mask [false, true, false, false, false, false, false, false, true] (loc' := [none, some (aA v1), none, none, none, none, none, none, some (aI v8)]) rfl ?_
        exact HK49 v8 H
def l_X3_fittingAt_19 (v1 : Nat) (v2 : Int32) (v3 : Int64) (v5 : Int64) (h : Hp) (K49 : Int32 → Option Int32) (v7 : Int32) (v8 : Int32) : Option Int32 := loopK FUEL (fun (k : Int32 × Int32 → Option Int32) (s : Int32 × Int32) => b_X3_fittingAt_19 v1 v2 v3 v5 h K49 (fun v7q v8q => k (v7q, v8q)) s.1 s.2) (v7, v8)
theorem okl_X3_fittingAt_19 {r : Int32} (v1 : Nat) (v2 : Int32) (v3 : Int64) (v5 : Int64) (h : Hp) (K49 : Int32 → Option Int32) (v7 : Int32) (v8 : Int32) (HK49 : ∀ (v8q : Int32) , K49 v8q = some r → Go M_X3_fittingAt (some (aI r), h) 49 [none, some (aA v1), none, none, none, none, none, none, some (aI v8q)] [] h) (H : l_X3_fittingAt_19 v1 v2 v3 v5 h K49 v7 v8 = some r) : Go M_X3_fittingAt (some (aI r), h) 19 [none, some (aA v1), some (aI v2), some (aL v3), none, some (aL v5), none, some (aI v7), some (aI v8)] [] h := by
  unfold l_X3_fittingAt_19 at H
  exact go_loop (σ := Int32 × Int32) (body := (fun (k : Int32 × Int32 → Option Int32) (s : Int32 × Int32) => b_X3_fittingAt_19 v1 v2 v3 v5 h K49 (fun v7q v8q => k (v7q, v8q)) s.1 s.2)) (fun s => [none, some (aA v1), some (aI v2), some (aL v3), none, some (aL v5), none, some (aI s.1), some (aI s.2)]) (fun s => h) (fun k s Hk H => okb_X3_fittingAt_19 v1 v2 v3 v5 h K49 (fun v7q v8q => k (v7q, v8q)) s.1 s.2 HK49 (fun v7q v8q H => Hk (v7q, v8q) H) H) FUEL (v7, v8) H
def j_X3_fittingAt_49 (v1 : Nat) (v8 : Int32)  (h : Hp) : Option Int32 :=
  (rc h v1 1 (m_X0_wordAt v1 v8 h)).bind fun x1 => (m_X5_wordNumber x1 h).bind fun x2 => some x2
set_option maxRecDepth 20000 in
theorem okj_X3_fittingAt_49 {r : Int32} (v1 : Nat) (v8 : Int32)  (h : Hp) (H : j_X3_fittingAt_49 v1 v8 h = some r) : Go M_X3_fittingAt (some (aI r), h) 49 [none, some (aA v1), none, none, none, none, none, none, some (aI v8)] [] h := by
  unfold j_X3_fittingAt_49 at H
  refine go_aloadn dX3_fittingAt_49 rfl ?_
  refine go_iload dX3_fittingAt_50 rfl ?_
  obtain ⟨c1, x1, ex1, H⟩ := gm_rc H
  refine go_callV (vs := [aI v8]) (stk := []) (o1 := (some (aI x1), h)) mk_X0_wordAt sv_X3_fittingAt_65 cl_X0 rfl dX3_fittingAt_52 c1 rfl rfl (Nat.le_of_ble_eq_true rfl) (Nat.le_of_ble_eq_true rfl) (ok_X0_wordAt ex1) (show Go M_X3_fittingAt (some (aI r), h) 55 [none, some (aA v1), none, none, none, none, none, none, some (aI v8)] [aI x1] h from ?_)
  obtain ⟨x2, ex2, H⟩ := bind_some H
  refine go_callS (vs := [aI x1]) (stk := []) (o1 := (some (aI x2), h)) mk_X5_wordNumber ss_X3_fittingAt_68 dX3_fittingAt_55 rfl rfl (Nat.le_of_ble_eq_true rfl) (Nat.le_of_ble_eq_true rfl) (ok_X5_wordNumber ex2) (show Go M_X3_fittingAt (some (aI r), h) 58 [none, some (aA v1), none, none, none, none, none, none, some (aI v8)] [aI x2] h from ?_)
  obtain rfl := Option.some.inj H
  exact go_ireturn dX3_fittingAt_58 (tyI_int rfl)
def m_X3_fittingAt (v0 : Nat) (v1 : Nat) (v2 : Int32) (h : Hp) : Option Int32 :=
  (rc h v0 4 (m_X3_slotsTold v0 (1 : Int32) h)).bind fun x1 => (rc h v0 4 (m_X3_slotsTold v0 (0 : Int32) h)).bind fun x2 => l_X3_fittingAt_19 v1 v2 x1 x2 h (fun a3_8 => j_X3_fittingAt_49 v1 a3_8 h) (0 : Int32) (0 : Int32)
set_option maxRecDepth 20000 in
theorem ok_X3_fittingAt {r : Int32} {v0 : Nat} {v1 : Nat} {v2 : Int32} {h : Hp} (H : m_X3_fittingAt v0 v1 v2 h = some r) : Ev M_X3_fittingAt [aA v0, aA v1, aI v2] h (some (aI r), h) := by
  show Go M_X3_fittingAt (some (aI r), h) 0 [some (aA v0), some (aA v1), some (aI v2), none, none, none, none, none, none] [] h
  unfold m_X3_fittingAt at H
  refine go_aloadn dX3_fittingAt_0 rfl ?_
  refine go_iconst (v := (1 : Int32)) dX3_fittingAt_1 rfl ?_
  obtain ⟨c1, x1, ex1, H⟩ := gm_rc H
  refine go_callV (vs := [aI (1 : Int32)]) (stk := []) (o1 := (some (aL x1), h)) mk_X3_slotsTold sv_X3_fittingAt_51 cl_X3 rfl dX3_fittingAt_2 c1 rfl rfl (Nat.le_of_ble_eq_true rfl) (Nat.le_of_ble_eq_true rfl) (ok_X3_slotsTold ex1) (show Go M_X3_fittingAt (some (aI r), h) 5 [some (aA v0), some (aA v1), some (aI v2), none, none, none, none, none, none] [aL x1] h from ?_)
  refine go_lstoren (loc2 := [some (aA v0), some (aA v1), some (aI v2), some (aL x1), none, none, none, none, none]) dX3_fittingAt_5 rfl (by decide) rfl ?_
  refine go_aloadn dX3_fittingAt_6 rfl ?_
  refine go_iconst (v := (0 : Int32)) dX3_fittingAt_7 rfl ?_
  obtain ⟨c2, x2, ex2, H⟩ := gm_rc H
  refine go_callV (vs := [aI (0 : Int32)]) (stk := []) (o1 := (some (aL x2), h)) mk_X3_slotsTold sv_X3_fittingAt_51 cl_X3 rfl dX3_fittingAt_8 c2 rfl rfl (Nat.le_of_ble_eq_true rfl) (Nat.le_of_ble_eq_true rfl) (ok_X3_slotsTold ex2) (show Go M_X3_fittingAt (some (aI r), h) 11 [some (aA v0), some (aA v1), some (aI v2), some (aL x1), none, none, none, none, none] [aL x2] h from ?_)
  refine go_lstore (loc2 := [some (aA v0), some (aA v1), some (aI v2), some (aL x1), none, some (aL x2), none, none, none]) dX3_fittingAt_11 (by decide) rfl ?_
  refine go_iconst (v := (0 : Int32)) dX3_fittingAt_13 rfl ?_
  refine go_istore (loc2 := [some (aA v0), some (aA v1), some (aI v2), some (aL x1), none, some (aL x2), none, some (aI (0 : Int32)), none]) dX3_fittingAt_14 (by decide) rfl ?_
  refine go_iconst (v := (0 : Int32)) dX3_fittingAt_16 rfl ?_
  refine go_istore (loc2 := [some (aA v0), some (aA v1), some (aI v2), some (aL x1), none, some (aL x2), none, some (aI (0 : Int32)), some (aI (0 : Int32))]) dX3_fittingAt_17 (by decide) rfl ?_
  refine go_mask [false, true, true, true, false, true, false, true, true] (loc' := [none, some (aA v1), some (aI v2), some (aL x1), none, some (aL x2), none, some (aI (0 : Int32)), some (aI (0 : Int32))]) rfl ?_
  refine okl_X3_fittingAt_19 v1 v2 x1 x2 h (fun a3_8 => j_X3_fittingAt_49 v1 a3_8 h) (0 : Int32) (0 : Int32) ?_ H
  · intro a3_8 H
    exact okj_X3_fittingAt_49 v1 a3_8 h  H
/-! X11_fits -/
def j_X11_fits_106  (s0 : Int32) (h : Hp) : Option Int32 :=
  some s0
set_option maxRecDepth 20000 in
theorem okj_X11_fits_106 {r : Int32}  (s0 : Int32) (h : Hp) (H : j_X11_fits_106 s0 h = some r) : Go M_X11_fits (some (aI r), h) 106 [none, none, none, none, none, none] [aI s0] h := by
  unfold j_X11_fits_106 at H
  obtain rfl := Option.some.inj H
  exact go_ireturn dX11_fits_106 (tyI_int rfl)
def m_X11_fits (v0 : Nat) (v1 : Int32) (v2 : Int32) (v3 : Int32) (h : Hp) : Option Int32 :=
  (gfR h v0 11 0).bind fun x1 => (rc h x1 9 (m_X9_archiveAt x1 v1 h)).bind fun x2 => (gfR h v0 11 0).bind fun x3 => (rc h x3 9 (m_X9_huntAt x3 v2 h)).bind fun x4 => (nz x2).bind fun _ => if x2 = 0 then (some (-2 : Int32)) else (nz x4).bind fun _ => if ¬ x4 = 0 then (if v3 = (0 : Int32) then ((rc h x4 4 (m_X3_fitting x4 x2 h)).bind fun x5 => some x5) else if v3 = (1 : Int32) then ((rc h x4 4 (m_X3_sureLetter x4 x2 h)).bind fun x6 => some x6) else if v3 = (2 : Int32) then ((rc h x4 4 (m_X3_askVersion x4 x2 h)).bind fun x7 => some x7) else if v3 < (10 : Int32) then j_X11_fits_106 (-2 : Int32) h else (rc h x4 4 (m_X3_fittingAt x4 x2 (v3 - (10 : Int32)) h)).bind fun x8 => j_X11_fits_106 x8 h) else some (-2 : Int32)
set_option maxRecDepth 20000 in
theorem ok_X11_fits {r : Int32} {v0 : Nat} {v1 : Int32} {v2 : Int32} {v3 : Int32} {h : Hp} (H : m_X11_fits v0 v1 v2 v3 h = some r) : Ev M_X11_fits [aA v0, aI v1, aI v2, aI v3] h (some (aI r), h) := by
  show Go M_X11_fits (some (aI r), h) 0 [some (aA v0), some (aI v1), some (aI v2), some (aI v3), none, none] [] h
  unfold m_X11_fits at H
  refine go_aloadn dX11_fits_0 rfl ?_
  refine gm_getR fd_X11_10 dX11_fits_1 H (fun x1 H => ?_)
  refine go_iloadn dX11_fits_4 rfl ?_
  obtain ⟨c1, x2, ex2, H⟩ := gm_rc H
  refine go_callV (vs := [aI v1]) (stk := []) (o1 := (some (aA x2), h)) mk_X9_archiveAt sv_X11_fits_86 cl_X9 rfl dX11_fits_5 c1 rfl rfl (Nat.le_of_ble_eq_true rfl) (Nat.le_of_ble_eq_true rfl) (ok_X9_archiveAt ex2) (show Go M_X11_fits (some (aI r), h) 8 [some (aA v0), some (aI v1), some (aI v2), some (aI v3), none, none] [aA x2] h from ?_)
  refine go_astore (loc2 := [some (aA v0), some (aI v1), some (aI v2), some (aI v3), some (aA x2), none]) dX11_fits_8 (by decide) rfl ?_
  refine go_aloadn dX11_fits_10 rfl ?_
  refine gm_getR fd_X11_10 dX11_fits_11 H (fun x3 H => ?_)
  refine go_iloadn dX11_fits_14 rfl ?_
  obtain ⟨c2, x4, ex4, H⟩ := gm_rc H
  refine go_callV (vs := [aI v2]) (stk := []) (o1 := (some (aA x4), h)) mk_X9_huntAt sv_X11_fits_311 cl_X9 rfl dX11_fits_15 c2 rfl rfl (Nat.le_of_ble_eq_true rfl) (Nat.le_of_ble_eq_true rfl) (ok_X9_huntAt ex4) (show Go M_X11_fits (some (aI r), h) 18 [some (aA v0), some (aI v1), some (aI v2), some (aI v3), some (aA x2), none] [aA x4] h from ?_)
  refine go_astore (loc2 := [some (aA v0), some (aI v1), some (aI v2), some (aI v3), some (aA x2), some (aA x4)]) dX11_fits_18 (by decide) rfl ?_
  refine go_aload dX11_fits_20 rfl ?_
  obtain ⟨c4, H⟩ := gm_nz H
  refine go_ifnull (tgt := 30) dX11_fits_22 (by decide) c4 (fun c3 => ?_) (fun c3 => ?_)
  · replace H := (gm_ite H).1 c3
    refine go_bipush (v := (-2 : Int32)) dX11_fits_30 rfl ?_
    obtain rfl := Option.some.inj H
    exact go_ireturn dX11_fits_32 (tyI_int rfl)
  · replace H := (gm_ite H).2 c3
    refine go_aload dX11_fits_25 rfl ?_
    obtain ⟨c6, H⟩ := gm_nz H
    refine go_ifnonnull (tgt := 33) dX11_fits_27 (by decide) c6 (fun c5 => ?_) (fun c5 => ?_)
    · replace H := (gm_ite H).1 c5
      refine go_iloadn dX11_fits_33 rfl ?_
      by_cases c7 : v3 = (0 : Int32)
      · replace H := (gm_ite H).1 c7
        refine go_eqI c7 ?_
        refine go_tableIn (tgt := 60) dX11_fits_34 (by decide) (by decide) rfl (by decide) ?_
        refine go_aload dX11_fits_60 rfl ?_
        refine go_aload dX11_fits_62 rfl ?_
        obtain ⟨c8, x5, ex5, H⟩ := gm_rc H
        refine go_callV (vs := [aA x2]) (stk := []) (o1 := (some (aI x5), h)) mk_X3_fitting sv_X11_fits_322 cl_X3 rfl dX11_fits_64 c8 rfl rfl (Nat.le_of_ble_eq_true rfl) (Nat.le_of_ble_eq_true rfl) (ok_X3_fitting ex5) (show Go M_X11_fits (some (aI r), h) 67 [some (aA v0), some (aI v1), some (aI v2), some (aI v3), some (aA x2), some (aA x4)] [aI x5] h from ?_)
        obtain rfl := Option.some.inj H
        exact go_ireturn dX11_fits_67 (tyI_int rfl)
      · replace H := (gm_ite H).2 c7
        by_cases c9 : v3 = (1 : Int32)
        · replace H := (gm_ite H).1 c9
          refine go_eqI c9 ?_
          refine go_tableIn (tgt := 68) dX11_fits_34 (by decide) (by decide) rfl (by decide) ?_
          refine go_aload dX11_fits_68 rfl ?_
          refine go_aload dX11_fits_70 rfl ?_
          obtain ⟨c10, x6, ex6, H⟩ := gm_rc H
          refine go_callV (vs := [aA x2]) (stk := []) (o1 := (some (aI x6), h)) mk_X3_sureLetter sv_X11_fits_325 cl_X3 rfl dX11_fits_72 c10 rfl rfl (Nat.le_of_ble_eq_true rfl) (Nat.le_of_ble_eq_true rfl) (ok_X3_sureLetter ex6) (show Go M_X11_fits (some (aI r), h) 75 [some (aA v0), some (aI v1), some (aI v2), some (aI v3), some (aA x2), some (aA x4)] [aI x6] h from ?_)
          obtain rfl := Option.some.inj H
          exact go_ireturn dX11_fits_75 (tyI_int rfl)
        · replace H := (gm_ite H).2 c9
          by_cases c11 : v3 = (2 : Int32)
          · replace H := (gm_ite H).1 c11
            refine go_eqI c11 ?_
            refine go_tableIn (tgt := 76) dX11_fits_34 (by decide) (by decide) rfl (by decide) ?_
            refine go_aload dX11_fits_76 rfl ?_
            refine go_aload dX11_fits_78 rfl ?_
            obtain ⟨c12, x7, ex7, H⟩ := gm_rc H
            refine go_callV (vs := [aA x2]) (stk := []) (o1 := (some (aI x7), h)) mk_X3_askVersion sv_X11_fits_328 cl_X3 rfl dX11_fits_80 c12 rfl rfl (Nat.le_of_ble_eq_true rfl) (Nat.le_of_ble_eq_true rfl) (ok_X3_askVersion ex7) (show Go M_X11_fits (some (aI r), h) 83 [some (aA v0), some (aI v1), some (aI v2), some (aI v3), some (aA x2), some (aA x4)] [aI x7] h from ?_)
            obtain rfl := Option.some.inj H
            exact go_ireturn dX11_fits_83 (tyI_int rfl)
          · replace H := (gm_ite H).2 c11
            refine go_tableOut (tgt := 84) dX11_fits_34 (sw_out (fun i h1 h2 e => ?_)) (by decide) ?_
            · have h3 : i = 0 ∨ i = 1 ∨ i = 2 := by omega
              rcases h3 with rfl | rfl | rfl
              · exact sw_ne c7 (by decide) e
              · exact sw_ne c9 (by decide) e
              · exact sw_ne c11 (by decide) e
            · skip
              refine go_iloadn dX11_fits_84 rfl ?_
              refine go_bipush (v := (10 : Int32)) dX11_fits_85 rfl ?_
              refine go_icmp_lt (tgt := 104) dX11_fits_87 (by decide) (fun c13 => ?_) (fun c13 => ?_)
              · replace H := (gm_ite H).1 c13
                refine go_bipush (v := (-2 : Int32)) dX11_fits_104 rfl ?_
                refine go_mask [false, false, false, false, false, false] (loc' := [none, none, none, none, none, none]) rfl ?_
                exact okj_X11_fits_106 (-2 : Int32) h  H
              · replace H := (gm_ite H).2 c13
                refine go_aload dX11_fits_90 rfl ?_
                refine go_aload dX11_fits_92 rfl ?_
                refine go_iloadn dX11_fits_94 rfl ?_
                refine go_bipush (v := (10 : Int32)) dX11_fits_95 rfl ?_
                refine go_isub dX11_fits_97 ?_
                obtain ⟨c14, x8, ex8, H⟩ := gm_rc H
                refine go_callV (vs := [aA x2, aI (v3 - (10 : Int32))]) (stk := []) (o1 := (some (aI x8), h)) mk_X3_fittingAt sv_X11_fits_331 cl_X3 rfl dX11_fits_98 c14 rfl rfl (Nat.le_of_ble_eq_true rfl) (Nat.le_of_ble_eq_true rfl) (ok_X3_fittingAt ex8) (show Go M_X11_fits (some (aI r), h) 101 [some (aA v0), some (aI v1), some (aI v2), some (aI v3), some (aA x2), some (aA x4)] [aI x8] h from ?_)
                refine go_goto (tgt := 106) dX11_fits_101 (by decide) ?_
                refine go_mask [false, false, false, false, false, false] (loc' := [none, none, none, none, none, none]) rfl ?_
                exact okj_X11_fits_106 x8 h  H
    · replace H := (gm_ite H).2 (fun q => q c5)
      refine go_bipush (v := (-2 : Int32)) dX11_fits_30 rfl ?_
      obtain rfl := Option.some.inj H
      exact go_ireturn dX11_fits_32 (tyI_int rfl)
/-! X12_isSo -/
def j_X12_isSo_70 (v0 : Nat) (v1 : Int32) (v2 : Int32) (s0 : Int32) (s1 : Int32) (h : Hp) (k : Int32 → Option Int32) : Option Int32 :=
  if s0 = s1 then (k (v2 + (1 : Int32))) else some (0 : Int32)
set_option maxRecDepth 20000 in
theorem okj_X12_isSo_70 {r : Int32} (v0 : Nat) (v1 : Int32) (v2 : Int32) (s0 : Int32) (s1 : Int32) (h : Hp) (k : Int32 → Option Int32) (Hk : ∀ (v2q : Int32), k v2q = some r → Go M_X12_isSo (some (aI r), h) 2 [some (aA v0), some (aI v1), some (aI v2q), none, none, none] [] h) (H : j_X12_isSo_70 v0 v1 v2 s0 s1 h k = some r) : Go M_X12_isSo (some (aI r), h) 70 [some (aA v0), some (aI v1), some (aI v2), none, none, none] [aI s1, aI s0] h := by
  unfold j_X12_isSo_70 at H
  refine go_icmp_eq (tgt := 75) dX12_isSo_70 (by decide) (fun c1 => ?_) (fun c1 => ?_)
  · replace H := (gm_ite H).1 c1
    refine go_iinc (v := (v2 + (1 : Int32))) (loc2 := [some (aA v0), some (aI v1), some (aI (v2 + (1 : Int32))), none, none, none]) dX12_isSo_75 rfl rfl (by decide) rfl ?_
    refine go_goto (tgt := 2) dX12_isSo_78 (by decide) ?_
    exact Hk (v2 + (1 : Int32)) H
  · replace H := (gm_ite H).2 c1
    refine go_iconst (v := (0 : Int32)) dX12_isSo_73 rfl ?_
    obtain rfl := Option.some.inj H
    exact go_ireturn (x := (0 : Int32)) dX12_isSo_74 (tyI_bool rfl (by decide))
def j_X12_isSo_51 (v0 : Nat) (v1 : Int32) (v2 : Int32) (s0 : Int32) (h : Hp) (k : Int32 → Option Int32) : Option Int32 :=
  (rc h v0 12 (m_X12_factOf v0 v2 (0 : Int32) h)).bind fun x1 => j_X12_isSo_70 v0 v1 v2 s0 (if ¬ x1 = (1 : Int32) then (0 : Int32) else (1 : Int32)) h k
set_option maxRecDepth 20000 in
theorem okj_X12_isSo_51 {r : Int32} (v0 : Nat) (v1 : Int32) (v2 : Int32) (s0 : Int32) (h : Hp) (k : Int32 → Option Int32) (Hk : ∀ (v2q : Int32), k v2q = some r → Go M_X12_isSo (some (aI r), h) 2 [some (aA v0), some (aI v1), some (aI v2q), none, none, none] [] h) (H : j_X12_isSo_51 v0 v1 v2 s0 h k = some r) : Go M_X12_isSo (some (aI r), h) 51 [some (aA v0), some (aI v1), some (aI v2), none, none, none] [aI s0] h := by
  unfold j_X12_isSo_51 at H
  refine go_istore (loc2 := [some (aA v0), some (aI v1), some (aI v2), none, none, some (aI s0)]) dX12_isSo_51 (by decide) rfl ?_
  refine go_iload dX12_isSo_53 rfl ?_
  refine go_aloadn dX12_isSo_55 rfl ?_
  refine go_iloadn dX12_isSo_56 rfl ?_
  refine go_iconst (v := (0 : Int32)) dX12_isSo_57 rfl ?_
  obtain ⟨c1, x1, ex1, H⟩ := gm_rc H
  refine go_callV (vs := [aI v2, aI (0 : Int32)]) (stk := [aI s0]) (o1 := (some (aI x1), h)) mk_X12_factOf sv_X12_isSo_437 cl_X12 rfl dX12_isSo_58 c1 rfl rfl (Nat.le_of_ble_eq_true rfl) (Nat.le_of_ble_eq_true rfl) (ok_X12_factOf ex1) (show Go M_X12_isSo (some (aI r), h) 61 [some (aA v0), some (aI v1), some (aI v2), none, none, some (aI s0)] [aI x1, aI s0] h from ?_)
  refine go_iconst (v := (1 : Int32)) dX12_isSo_61 rfl ?_
  refine go_icmp_ne (tgt := 69) dX12_isSo_62 (by decide) (fun c2 => ?_) (fun c2 => ?_)
  · rw [if_pos c2] at H
    refine go_iconst (v := (0 : Int32)) dX12_isSo_69 rfl ?_
    refine go_mask [true, true, true, false, false, false] (loc' := [some (aA v0), some (aI v1), some (aI v2), none, none, none]) rfl ?_
    exact okj_X12_isSo_70 v0 v1 v2 s0 (0 : Int32) h k Hk H
  · rw [if_neg c2] at H
    refine go_iconst (v := (1 : Int32)) dX12_isSo_65 rfl ?_
    refine go_goto (tgt := 70) dX12_isSo_66 (by decide) ?_
    refine go_mask [true, true, true, false, false, false] (loc' := [some (aA v0), some (aI v1), some (aI v2), none, none, none]) rfl ?_
    exact okj_X12_isSo_70 v0 v1 v2 s0 (1 : Int32) h k Hk H
def b_X12_isSo_2 (v0 : Nat) (v1 : Int32) (h : Hp) (k : Int32 → Option Int32) (v2 : Int32) : Option Int32 :=
  (rc h v0 12 (m_X12_facts v0 h)).bind fun x1 => if x1 ≤ v2 then (some (1 : Int32)) else (rc h v0 12 (m_X12_factOf v0 v2 (1 : Int32) h)).bind fun x2 => (rc h v0 12 (m_X12_factOf v0 v2 (2 : Int32) h)).bind fun x3 => (rc h v0 12 (m_X12_isVersion v0 x2 x3 h)).bind fun x4 => if x4 = 0 then j_X12_isSo_51 v0 v1 v2 (0 : Int32) h k else (rc h v0 12 (m_X12_timesIn v0 x2 x3 v1 h)).bind fun x5 => j_X12_isSo_51 v0 v1 v2 (if x5 ≤ 0 then (0 : Int32) else (1 : Int32)) h k
set_option maxRecDepth 20000 in
theorem okb_X12_isSo_2 {r : Int32} (v0 : Nat) (v1 : Int32) (h : Hp) (k : Int32 → Option Int32) (v2 : Int32) (Hk : ∀ (v2q : Int32), k v2q = some r → Go M_X12_isSo (some (aI r), h) 2 [some (aA v0), some (aI v1), some (aI v2q), none, none, none] [] h) (H : b_X12_isSo_2 v0 v1 h k v2 = some r) : Go M_X12_isSo (some (aI r), h) 2 [some (aA v0), some (aI v1), some (aI v2), none, none, none] [] h := by
  unfold b_X12_isSo_2 at H
  refine go_iloadn dX12_isSo_2 rfl ?_
  refine go_aloadn dX12_isSo_3 rfl ?_
  obtain ⟨c1, x1, ex1, H⟩ := gm_rc H
  refine go_callV (vs := []) (stk := [aI v2]) (o1 := (some (aI x1), h)) mk_X12_facts sv_X12_isSo_434 cl_X12 rfl dX12_isSo_4 c1 rfl rfl (Nat.le_of_ble_eq_true rfl) (Nat.le_of_ble_eq_true rfl) (ok_X12_facts ex1) (show Go M_X12_isSo (some (aI r), h) 7 [some (aA v0), some (aI v1), some (aI v2), none, none, none] [aI x1, aI v2] h from ?_)
  refine go_icmp_ge (tgt := 81) dX12_isSo_7 (by decide) (fun c2 => ?_) (fun c2 => ?_)
  · replace H := (gm_ite H).1 c2
    refine go_iconst (v := (1 : Int32)) dX12_isSo_81 rfl ?_
    obtain rfl := Option.some.inj H
    exact go_ireturn (x := (1 : Int32)) dX12_isSo_82 (tyI_bool rfl (by decide))
  · replace H := (gm_ite H).2 c2
    refine go_aloadn dX12_isSo_10 rfl ?_
    refine go_iloadn dX12_isSo_11 rfl ?_
    refine go_iconst (v := (1 : Int32)) dX12_isSo_12 rfl ?_
    obtain ⟨c3, x2, ex2, H⟩ := gm_rc H
    refine go_callV (vs := [aI v2, aI (1 : Int32)]) (stk := []) (o1 := (some (aI x2), h)) mk_X12_factOf sv_X12_isSo_437 cl_X12 rfl dX12_isSo_13 c3 rfl rfl (Nat.le_of_ble_eq_true rfl) (Nat.le_of_ble_eq_true rfl) (ok_X12_factOf ex2) (show Go M_X12_isSo (some (aI r), h) 16 [some (aA v0), some (aI v1), some (aI v2), none, none, none] [aI x2] h from ?_)
    refine go_istoren (loc2 := [some (aA v0), some (aI v1), some (aI v2), some (aI x2), none, none]) dX12_isSo_16 rfl (by decide) rfl ?_
    refine go_aloadn dX12_isSo_17 rfl ?_
    refine go_iloadn dX12_isSo_18 rfl ?_
    refine go_iconst (v := (2 : Int32)) dX12_isSo_19 rfl ?_
    obtain ⟨c4, x3, ex3, H⟩ := gm_rc H
    refine go_callV (vs := [aI v2, aI (2 : Int32)]) (stk := []) (o1 := (some (aI x3), h)) mk_X12_factOf sv_X12_isSo_437 cl_X12 rfl dX12_isSo_20 c4 rfl rfl (Nat.le_of_ble_eq_true rfl) (Nat.le_of_ble_eq_true rfl) (ok_X12_factOf ex3) (show Go M_X12_isSo (some (aI r), h) 23 [some (aA v0), some (aI v1), some (aI v2), some (aI x2), none, none] [aI x3] h from ?_)
    refine go_istore (loc2 := [some (aA v0), some (aI v1), some (aI v2), some (aI x2), some (aI x3), none]) dX12_isSo_23 (by decide) rfl ?_
    refine go_aloadn dX12_isSo_25 rfl ?_
    refine go_iloadn dX12_isSo_26 rfl ?_
    refine go_iload dX12_isSo_27 rfl ?_
    obtain ⟨c5, x4, ex4, H⟩ := gm_rc H
    refine go_callV (vs := [aI x2, aI x3]) (stk := []) (o1 := (some (aI x4), h)) mk_X12_isVersion sv_X12_isSo_284 cl_X12 rfl dX12_isSo_29 c5 rfl rfl (Nat.le_of_ble_eq_true rfl) (Nat.le_of_ble_eq_true rfl) (ok_X12_isVersion ex4) (show Go M_X12_isSo (some (aI r), h) 32 [some (aA v0), some (aI v1), some (aI v2), some (aI x2), some (aI x3), none] [aI x4] h from ?_)
    refine go_if_eq (tgt := 50) dX12_isSo_32 (by decide) (fun c6 => ?_) (fun c6 => ?_)
    · replace H := (gm_ite H).1 c6
      refine go_iconst (v := (0 : Int32)) dX12_isSo_50 rfl ?_
      refine go_mask [true, true, true, false, false, false] (loc' := [some (aA v0), some (aI v1), some (aI v2), none, none, none]) rfl ?_
      exact okj_X12_isSo_51 v0 v1 v2 (0 : Int32) h k Hk H
    · replace H := (gm_ite H).2 c6
      refine go_aloadn dX12_isSo_35 rfl ?_
      refine go_iloadn dX12_isSo_36 rfl ?_
      refine go_iload dX12_isSo_37 rfl ?_
      refine go_iloadn dX12_isSo_39 rfl ?_
      obtain ⟨c7, x5, ex5, H⟩ := gm_rc H
      refine go_callV (vs := [aI x2, aI x3, aI v1]) (stk := []) (o1 := (some (aI x5), h)) mk_X12_timesIn sv_X12_isSo_362 cl_X12 rfl dX12_isSo_40 c7 rfl rfl (Nat.le_of_ble_eq_true rfl) (Nat.le_of_ble_eq_true rfl) (ok_X12_timesIn ex5) (show Go M_X12_isSo (some (aI r), h) 43 [some (aA v0), some (aI v1), some (aI v2), some (aI x2), some (aI x3), none] [aI x5] h from ?_)
      refine go_if_le (tgt := 50) dX12_isSo_43 (by decide) (fun c8 => ?_) (fun c8 => ?_)
      · rw [if_pos c8] at H
        refine go_iconst (v := (0 : Int32)) dX12_isSo_50 rfl ?_
        refine go_mask [true, true, true, false, false, false] (loc' := [some (aA v0), some (aI v1), some (aI v2), none, none, none]) rfl ?_
        exact okj_X12_isSo_51 v0 v1 v2 (0 : Int32) h k Hk H
      · rw [if_neg c8] at H
        refine go_iconst (v := (1 : Int32)) dX12_isSo_46 rfl ?_
        refine go_goto (tgt := 51) dX12_isSo_47 (by decide) ?_
        refine go_mask [true, true, true, false, false, false] (loc' := [some (aA v0), some (aI v1), some (aI v2), none, none, none]) rfl ?_
        exact okj_X12_isSo_51 v0 v1 v2 (1 : Int32) h k Hk H
def l_X12_isSo_2 (v0 : Nat) (v1 : Int32) (h : Hp) (v2 : Int32) : Option Int32 := loopK FUEL (fun (k : Int32 → Option Int32) (s : Int32) => b_X12_isSo_2 v0 v1 h (fun v2q => k v2q) s) v2
theorem okl_X12_isSo_2 {r : Int32} (v0 : Nat) (v1 : Int32) (h : Hp) (v2 : Int32) (H : l_X12_isSo_2 v0 v1 h v2 = some r) : Go M_X12_isSo (some (aI r), h) 2 [some (aA v0), some (aI v1), some (aI v2), none, none, none] [] h := by
  unfold l_X12_isSo_2 at H
  exact go_loop (σ := Int32) (body := (fun (k : Int32 → Option Int32) (s : Int32) => b_X12_isSo_2 v0 v1 h (fun v2q => k v2q) s)) (fun s => [some (aA v0), some (aI v1), some (aI s), none, none, none]) (fun s => h) (fun k s Hk H => okb_X12_isSo_2 v0 v1 h (fun v2q => k v2q) s  (fun v2q H => Hk v2q H) H) FUEL v2 H
def m_X12_isSo (v0 : Nat) (v1 : Int32) (h : Hp) : Option Int32 :=
  l_X12_isSo_2 v0 v1 h (0 : Int32)
set_option maxRecDepth 20000 in
theorem ok_X12_isSo {r : Int32} {v0 : Nat} {v1 : Int32} {h : Hp} (H : m_X12_isSo v0 v1 h = some r) : Ev M_X12_isSo [aA v0, aI v1] h (some (aI r), h) := by
  show Go M_X12_isSo (some (aI r), h) 0 [some (aA v0), some (aI v1), none, none, none, none] [] h
  unfold m_X12_isSo at H
  refine go_iconst (v := (0 : Int32)) dX12_isSo_0 rfl ?_
  refine go_istoren (loc2 := [some (aA v0), some (aI v1), some (aI (0 : Int32)), none, none, none]) dX12_isSo_1 rfl (by decide) rfl ?_
  exact okl_X12_isSo_2 v0 v1 h (0 : Int32) H
/-! X12_noteFit -/
def j_X12_noteFit_104 (v0 : Nat) (v1 : Int32) (v3 : Int32) (s0 : Nat) (s1 : Int32) (s2 : Int32) (s3 : Int32) (h : Hp) (k : Int32 → Hp → Option Hp) : Option Hp :=
  (asI h s0 s1 (s2 + s3)).bind fun hh1 => k (v3 + (1 : Int32)) hh1
set_option maxRecDepth 20000 in
theorem okj_X12_noteFit_104 {r : Hp} (v0 : Nat) (v1 : Int32) (v3 : Int32) (s0 : Nat) (s1 : Int32) (s2 : Int32) (s3 : Int32) (h : Hp) (k : Int32 → Hp → Option Hp) (Hk : ∀ (v3q : Int32) (hq : Hp), k v3q hq = some r → Go M_X12_noteFit (none, r) 51 [some (aA v0), some (aI v1), none, some (aI v3q), none, none] [] hq) (H : j_X12_noteFit_104 v0 v1 v3 s0 s1 s2 s3 h k = some r) : Go M_X12_noteFit (none, r) 104 [some (aA v0), some (aI v1), none, some (aI v3), none, none] [aI s3, aI s2, aI s1, aA s0] h := by
  unfold j_X12_noteFit_104 at H
  refine go_iadd dX12_noteFit_104 ?_
  refine gm_iast dX12_noteFit_105 H (fun hh1 H => ?_)
  refine go_iinc (v := (v3 + (1 : Int32))) (loc2 := [some (aA v0), some (aI v1), none, some (aI (v3 + (1 : Int32))), none, none]) dX12_noteFit_106 rfl rfl (by decide) rfl ?_
  refine go_goto (tgt := 51) dX12_noteFit_109 (by decide) ?_
  exact Hk (v3 + (1 : Int32)) hh1 H
def j_X12_noteFit_103 (v0 : Nat) (v1 : Int32) (v3 : Int32) (s0 : Nat) (s1 : Int32) (s2 : Int32) (h : Hp) (k : Int32 → Hp → Option Hp) : Option Hp :=
  j_X12_noteFit_104 v0 v1 v3 s0 s1 s2 (0 : Int32) h k
set_option maxRecDepth 20000 in
theorem okj_X12_noteFit_103 {r : Hp} (v0 : Nat) (v1 : Int32) (v3 : Int32) (s0 : Nat) (s1 : Int32) (s2 : Int32) (h : Hp) (k : Int32 → Hp → Option Hp) (Hk : ∀ (v3q : Int32) (hq : Hp), k v3q hq = some r → Go M_X12_noteFit (none, r) 51 [some (aA v0), some (aI v1), none, some (aI v3q), none, none] [] hq) (H : j_X12_noteFit_103 v0 v1 v3 s0 s1 s2 h k = some r) : Go M_X12_noteFit (none, r) 103 [some (aA v0), some (aI v1), none, some (aI v3), none, none] [aI s2, aI s1, aA s0] h := by
  unfold j_X12_noteFit_103 at H
  refine go_iconst (v := (0 : Int32)) dX12_noteFit_103 rfl ?_
  exact okj_X12_noteFit_104 v0 v1 v3 s0 s1 s2 (0 : Int32) h k Hk H
def b_X12_noteFit_51 (v0 : Nat) (v1 : Int32) (k : Int32 → Hp → Option Hp) (v3 : Int32) (h : Hp) : Option Hp :=
  if (40 : Int32) ≤ v3 then (some h) else (gfR h v0 12 34).bind fun x1 => (alI h x1 v3).bind fun x2 => (rc h v0 12 (m_X12_isVersion v0 (v3 / (10 : Int32)) (iremF v3 (10 : Int32)) h)).bind fun x3 => if x3 = 0 then j_X12_noteFit_103 v0 v1 v3 x1 v3 x2 h k else (rc h v0 12 (m_X12_timesIn v0 (v3 / (10 : Int32)) (iremF v3 (10 : Int32)) v1 h)).bind fun x4 => if x4 ≤ 0 then j_X12_noteFit_103 v0 v1 v3 x1 v3 x2 h k else j_X12_noteFit_104 v0 v1 v3 x1 v3 x2 (1 : Int32) h k
set_option maxRecDepth 20000 in
theorem okb_X12_noteFit_51 {r : Hp} (v0 : Nat) (v1 : Int32) (k : Int32 → Hp → Option Hp) (v3 : Int32) (h : Hp) (Hk : ∀ (v3q : Int32) (hq : Hp), k v3q hq = some r → Go M_X12_noteFit (none, r) 51 [some (aA v0), some (aI v1), none, some (aI v3q), none, none] [] hq) (H : b_X12_noteFit_51 v0 v1 k v3 h = some r) : Go M_X12_noteFit (none, r) 51 [some (aA v0), some (aI v1), none, some (aI v3), none, none] [] h := by
  unfold b_X12_noteFit_51 at H
  refine go_iloadn dX12_noteFit_51 rfl ?_
  refine go_bipush (v := (40 : Int32)) dX12_noteFit_52 rfl ?_
  refine go_icmp_ge (tgt := 112) dX12_noteFit_54 (by decide) (fun c1 => ?_) (fun c1 => ?_)
  · replace H := (gm_ite H).1 c1
    obtain rfl := Option.some.inj H
    exact go_return dX12_noteFit_112 rfl
  · replace H := (gm_ite H).2 c1
    refine go_iloadn dX12_noteFit_57 rfl ?_
    refine go_bipush (v := (10 : Int32)) dX12_noteFit_58 rfl ?_
    refine go_idiv dX12_noteFit_60 (by decide) ?_
    refine go_istore (loc2 := [some (aA v0), some (aI v1), none, some (aI v3), some (aI (v3 / (10 : Int32))), none]) dX12_noteFit_61 (by decide) rfl ?_
    refine go_iloadn dX12_noteFit_63 rfl ?_
    refine go_bipush (v := (10 : Int32)) dX12_noteFit_64 rfl ?_
    refine go_irem dX12_noteFit_66 (by decide) ?_
    refine go_istore (loc2 := [some (aA v0), some (aI v1), none, some (aI v3), some (aI (v3 / (10 : Int32))), some (aI (iremF v3 (10 : Int32)))]) dX12_noteFit_67 (by decide) rfl ?_
    refine go_aloadn dX12_noteFit_69 rfl ?_
    refine gm_getR fd_X12_53 dX12_noteFit_70 H (fun x1 H => ?_)
    refine go_iloadn dX12_noteFit_73 rfl ?_
    refine go_dup2IA dX12_noteFit_74 ?_
    refine gm_iald dX12_noteFit_75 H (fun x2 H => ?_)
    refine go_aloadn dX12_noteFit_76 rfl ?_
    refine go_iload dX12_noteFit_77 rfl ?_
    refine go_iload dX12_noteFit_79 rfl ?_
    obtain ⟨c2, x3, ex3, H⟩ := gm_rc H
    refine go_callV (vs := [aI (v3 / (10 : Int32)), aI (iremF v3 (10 : Int32))]) (stk := [aI x2, aI v3, aA x1]) (o1 := (some (aI x3), h)) mk_X12_isVersion sv_X12_noteFit_284 cl_X12 rfl dX12_noteFit_81 c2 rfl rfl (Nat.le_of_ble_eq_true rfl) (Nat.le_of_ble_eq_true rfl) (ok_X12_isVersion ex3) (show Go M_X12_noteFit (none, r) 84 [some (aA v0), some (aI v1), none, some (aI v3), some (aI (v3 / (10 : Int32))), some (aI (iremF v3 (10 : Int32)))] [aI x3, aI x2, aI v3, aA x1] h from ?_)
    refine go_if_eq (tgt := 103) dX12_noteFit_84 (by decide) (fun c3 => ?_) (fun c3 => ?_)
    · replace H := (gm_ite H).1 c3
      refine go_mask [true, true, false, true, false, false] (loc' := [some (aA v0), some (aI v1), none, some (aI v3), none, none]) rfl ?_
      exact okj_X12_noteFit_103 v0 v1 v3 x1 v3 x2 h k Hk H
    · replace H := (gm_ite H).2 c3
      refine go_aloadn dX12_noteFit_87 rfl ?_
      refine go_iload dX12_noteFit_88 rfl ?_
      refine go_iload dX12_noteFit_90 rfl ?_
      refine go_iloadn dX12_noteFit_92 rfl ?_
      obtain ⟨c4, x4, ex4, H⟩ := gm_rc H
      refine go_callV (vs := [aI (v3 / (10 : Int32)), aI (iremF v3 (10 : Int32)), aI v1]) (stk := [aI x2, aI v3, aA x1]) (o1 := (some (aI x4), h)) mk_X12_timesIn sv_X12_noteFit_362 cl_X12 rfl dX12_noteFit_93 c4 rfl rfl (Nat.le_of_ble_eq_true rfl) (Nat.le_of_ble_eq_true rfl) (ok_X12_timesIn ex4) (show Go M_X12_noteFit (none, r) 96 [some (aA v0), some (aI v1), none, some (aI v3), some (aI (v3 / (10 : Int32))), some (aI (iremF v3 (10 : Int32)))] [aI x4, aI x2, aI v3, aA x1] h from ?_)
      refine go_if_le (tgt := 103) dX12_noteFit_96 (by decide) (fun c5 => ?_) (fun c5 => ?_)
      · replace H := (gm_ite H).1 c5
        refine go_mask [true, true, false, true, false, false] (loc' := [some (aA v0), some (aI v1), none, some (aI v3), none, none]) rfl ?_
        exact okj_X12_noteFit_103 v0 v1 v3 x1 v3 x2 h k Hk H
      · replace H := (gm_ite H).2 c5
        refine go_iconst (v := (1 : Int32)) dX12_noteFit_99 rfl ?_
        refine go_goto (tgt := 104) dX12_noteFit_100 (by decide) ?_
        refine go_mask [true, true, false, true, false, false] (loc' := [some (aA v0), some (aI v1), none, some (aI v3), none, none]) rfl ?_
        exact okj_X12_noteFit_104 v0 v1 v3 x1 v3 x2 (1 : Int32) h k Hk H
def l_X12_noteFit_51 (v0 : Nat) (v1 : Int32) (v3 : Int32) (h : Hp) : Option Hp := loopK FUEL (fun (k : Int32 × Hp → Option Hp) (s : Int32 × Hp) => b_X12_noteFit_51 v0 v1 (fun v3q hq => k (v3q, hq)) s.1 s.2) (v3, h)
theorem okl_X12_noteFit_51 {r : Hp} (v0 : Nat) (v1 : Int32) (v3 : Int32) (h : Hp) (H : l_X12_noteFit_51 v0 v1 v3 h = some r) : Go M_X12_noteFit (none, r) 51 [some (aA v0), some (aI v1), none, some (aI v3), none, none] [] h := by
  unfold l_X12_noteFit_51 at H
  exact go_loop (σ := Int32 × Hp) (body := (fun (k : Int32 × Hp → Option Hp) (s : Int32 × Hp) => b_X12_noteFit_51 v0 v1 (fun v3q hq => k (v3q, hq)) s.1 s.2)) (fun s => [some (aA v0), some (aI v1), none, some (aI s.1), none, none]) (fun s => s.2) (fun k s Hk H => okb_X12_noteFit_51 v0 v1 (fun v3q hq => k (v3q, hq)) s.1 s.2  (fun v3q hq H => Hk (v3q, hq) H) H) FUEL (v3, h) H
def j_X12_noteFit_17 (v0 : Nat) (v1 : Int32) (s0 : Nat) (s1 : Int32) (h : Hp) : Option Hp :=
  (pfI h s0 12 32 s1).bind fun hh1 => (gfI hh1 v0 12 31).bind fun x1 => (pfI hh1 v0 12 31 (x1 + (1 : Int32))).bind fun hh2 => (gfI hh2 v0 12 33).bind fun x2 => (m_X12_widened v1 hh2).bind fun x3 => (pfI hh2 v0 12 33 (x2 ||| (ishlF (1 : Int32) (x3 / (19683 : Int32))))).bind fun hh3 => l_X12_noteFit_51 v0 v1 (0 : Int32) hh3
set_option maxRecDepth 20000 in
theorem okj_X12_noteFit_17 {r : Hp} (v0 : Nat) (v1 : Int32) (s0 : Nat) (s1 : Int32) (h : Hp) (H : j_X12_noteFit_17 v0 v1 s0 s1 h = some r) : Go M_X12_noteFit (none, r) 17 [some (aA v0), some (aI v1), none, none, none, none] [aI s1, aA s0] h := by
  unfold j_X12_noteFit_17 at H
  refine gm_putI fd_X12_443 (Or.inl rfl) dX12_noteFit_17 H (fun hh1 H => ?_)
  refine go_aloadn dX12_noteFit_20 rfl ?_
  refine go_dupA dX12_noteFit_21 ?_
  refine gm_getI fd_X12_440 dX12_noteFit_22 H (fun x1 H => ?_)
  refine go_iconst (v := (1 : Int32)) dX12_noteFit_25 rfl ?_
  refine go_iadd dX12_noteFit_26 ?_
  refine gm_putI fd_X12_440 (Or.inl rfl) dX12_noteFit_27 H (fun hh2 H => ?_)
  refine go_aloadn dX12_noteFit_30 rfl ?_
  refine go_dupA dX12_noteFit_31 ?_
  refine gm_getI fd_X12_446 dX12_noteFit_32 H (fun x2 H => ?_)
  refine go_iconst (v := (1 : Int32)) dX12_noteFit_35 rfl ?_
  refine go_iloadn dX12_noteFit_36 rfl ?_
  obtain ⟨x3, ex3, H⟩ := bind_some H
  refine go_callS (vs := [aI v1]) (stk := [aI (1 : Int32), aI x2, aA v0]) (o1 := (some (aI x3), hh2)) mk_X12_widened ss_X12_noteFit_358 dX12_noteFit_37 rfl rfl (Nat.le_of_ble_eq_true rfl) (Nat.le_of_ble_eq_true rfl) (ok_X12_widened ex3) (show Go M_X12_noteFit (none, r) 40 [some (aA v0), some (aI v1), none, none, none, none] [aI x3, aI (1 : Int32), aI x2, aA v0] hh2 from ?_)
  refine go_sipush (v := (19683 : Int32)) dX12_noteFit_40 rfl ?_
  refine go_idiv dX12_noteFit_43 (by decide) ?_
  refine go_ishl dX12_noteFit_44 ?_
  refine go_ior dX12_noteFit_45 ?_
  refine gm_putI fd_X12_446 (Or.inl rfl) dX12_noteFit_46 H (fun hh3 H => ?_)
  refine go_iconst (v := (0 : Int32)) dX12_noteFit_49 rfl ?_
  refine go_istoren (loc2 := [some (aA v0), some (aI v1), none, some (aI (0 : Int32)), none, none]) dX12_noteFit_50 rfl (by decide) rfl ?_
  exact okl_X12_noteFit_51 v0 v1 (0 : Int32) hh3 H
def m_X12_noteFit (v0 : Nat) (v1 : Int32) (v2 : Int32) (h : Hp) : Option Hp :=
  (gfI h v0 12 31).bind fun x1 => if ¬ x1 = v2 then ((gfI h v0 12 32).bind fun x2 => j_X12_noteFit_17 v0 v1 v0 x2 h) else j_X12_noteFit_17 v0 v1 v0 v1 h
set_option maxRecDepth 20000 in
theorem ok_X12_noteFit {r : Hp} {v0 : Nat} {v1 : Int32} {v2 : Int32} {h : Hp} (H : m_X12_noteFit v0 v1 v2 h = some r) : Ev M_X12_noteFit [aA v0, aI v1, aI v2] h (none, r) := by
  show Go M_X12_noteFit (none, r) 0 [some (aA v0), some (aI v1), some (aI v2), none, none, none] [] h
  unfold m_X12_noteFit at H
  refine go_aloadn dX12_noteFit_0 rfl ?_
  refine go_aloadn dX12_noteFit_1 rfl ?_
  refine gm_getI fd_X12_440 dX12_noteFit_2 H (fun x1 H => ?_)
  refine go_iloadn dX12_noteFit_5 rfl ?_
  refine go_icmp_ne (tgt := 13) dX12_noteFit_6 (by decide) (fun c1 => ?_) (fun c1 => ?_)
  · replace H := (gm_ite H).1 c1
    refine go_aloadn dX12_noteFit_13 rfl ?_
    refine gm_getI fd_X12_443 dX12_noteFit_14 H (fun x2 H => ?_)
    refine go_mask [true, true, false, false, false, false] (loc' := [some (aA v0), some (aI v1), none, none, none, none]) rfl ?_
    exact okj_X12_noteFit_17 v0 v1 v0 x2 h  H
  · replace H := (gm_ite H).2 c1
    refine go_iloadn dX12_noteFit_9 rfl ?_
    refine go_goto (tgt := 17) dX12_noteFit_10 (by decide) ?_
    refine go_mask [true, true, false, false, false, false] (loc' := [some (aA v0), some (aI v1), none, none, none, none]) rfl ?_
    exact okj_X12_noteFit_17 v0 v1 v0 v1 h  H
/-! X12_findWords -/
def b_X12_findWords_18 (v0 : Nat) (v1 : Int32) (K37 : Hp → Option Hp) (k : Int32 → Hp → Option Hp) (v2 : Int32) (h : Hp) : Option Hp :=
  if (40 : Int32) ≤ v2 then K37 h else (gfR h v0 12 34).bind fun x1 => (asI h x1 v2 (0 : Int32)).bind fun hh1 => k (v2 + (1 : Int32)) hh1
set_option maxRecDepth 20000 in
theorem okb_X12_findWords_18 {r : Hp} (v0 : Nat) (v1 : Int32) (K37 : Hp → Option Hp) (k : Int32 → Hp → Option Hp) (v2 : Int32) (h : Hp) (HK37 : ∀   (hq : Hp), K37 hq = some r → Go M_X12_findWords (none, r) 37 [some (aA v0), some (aI v1), none] [] hq) (Hk : ∀ (v2q : Int32) (hq : Hp), k v2q hq = some r → Go M_X12_findWords (none, r) 18 [some (aA v0), some (aI v1), some (aI v2q)] [] hq) (H : b_X12_findWords_18 v0 v1 K37 k v2 h = some r) : Go M_X12_findWords (none, r) 18 [some (aA v0), some (aI v1), some (aI v2)] [] h := by
  unfold b_X12_findWords_18 at H
  refine go_iloadn dX12_findWords_18 rfl ?_
  refine go_bipush (v := (40 : Int32)) dX12_findWords_19 rfl ?_
  refine go_icmp_ge (tgt := 37) dX12_findWords_21 (by decide) (fun c1 => ?_) (fun c1 => ?_)
  · replace H := (gm_ite H).1 c1
    refine go_mask [true, true, false] (loc' := [some (aA v0), some (aI v1), none]) rfl ?_
    exact HK37 h H
  · replace H := (gm_ite H).2 c1
    refine go_aloadn dX12_findWords_24 rfl ?_
    refine gm_getR fd_X12_53 dX12_findWords_25 H (fun x1 H => ?_)
    refine go_iloadn dX12_findWords_28 rfl ?_
    refine go_iconst (v := (0 : Int32)) dX12_findWords_29 rfl ?_
    refine gm_iast dX12_findWords_30 H (fun hh1 H => ?_)
    refine go_iinc (v := (v2 + (1 : Int32))) (loc2 := [some (aA v0), some (aI v1), some (aI (v2 + (1 : Int32)))]) dX12_findWords_31 rfl rfl (by decide) rfl ?_
    refine go_goto (tgt := 18) dX12_findWords_34 (by decide) ?_
    exact Hk (v2 + (1 : Int32)) hh1 H
def l_X12_findWords_18 (v0 : Nat) (v1 : Int32) (K37 : Hp → Option Hp) (v2 : Int32) (h : Hp) : Option Hp := loopK FUEL (fun (k : Int32 × Hp → Option Hp) (s : Int32 × Hp) => b_X12_findWords_18 v0 v1 K37 (fun v2q hq => k (v2q, hq)) s.1 s.2) (v2, h)
theorem okl_X12_findWords_18 {r : Hp} (v0 : Nat) (v1 : Int32) (K37 : Hp → Option Hp) (v2 : Int32) (h : Hp) (HK37 : ∀   (hq : Hp), K37 hq = some r → Go M_X12_findWords (none, r) 37 [some (aA v0), some (aI v1), none] [] hq) (H : l_X12_findWords_18 v0 v1 K37 v2 h = some r) : Go M_X12_findWords (none, r) 18 [some (aA v0), some (aI v1), some (aI v2)] [] h := by
  unfold l_X12_findWords_18 at H
  exact go_loop (σ := Int32 × Hp) (body := (fun (k : Int32 × Hp → Option Hp) (s : Int32 × Hp) => b_X12_findWords_18 v0 v1 K37 (fun v2q hq => k (v2q, hq)) s.1 s.2)) (fun s => [some (aA v0), some (aI v1), some (aI s.1)]) (fun s => s.2) (fun k s Hk H => okb_X12_findWords_18 v0 v1 K37 (fun v2q hq => k (v2q, hq)) s.1 s.2 HK37 (fun v2q hq H => Hk (v2q, hq) H) H) FUEL (v2, h) H
def j_X12_findWords_75 (v0 : Nat) (v1 : Int32) (v2 : Int32)  (h : Hp) (k : Int32 → Hp → Option Hp) : Option Hp :=
  k (v2 + (1 : Int32)) h
set_option maxRecDepth 20000 in
theorem okj_X12_findWords_75 {r : Hp} (v0 : Nat) (v1 : Int32) (v2 : Int32)  (h : Hp) (k : Int32 → Hp → Option Hp) (Hk : ∀ (v2q : Int32) (hq : Hp), k v2q hq = some r → Go M_X12_findWords (none, r) 43 [some (aA v0), some (aI v1), some (aI v2q)] [] hq) (H : j_X12_findWords_75 v0 v1 v2 h k = some r) : Go M_X12_findWords (none, r) 75 [some (aA v0), some (aI v1), some (aI v2)] [] h := by
  unfold j_X12_findWords_75 at H
  refine go_iinc (v := (v2 + (1 : Int32))) (loc2 := [some (aA v0), some (aI v1), some (aI (v2 + (1 : Int32)))]) dX12_findWords_75 rfl rfl (by decide) rfl ?_
  refine go_goto (tgt := 43) dX12_findWords_78 (by decide) ?_
  exact Hk (v2 + (1 : Int32)) h H
def b_X12_findWords_43 (v0 : Nat) (v1 : Int32) (k : Int32 → Hp → Option Hp) (v2 : Int32) (h : Hp) : Option Hp :=
  (gfI h v0 12 25).bind fun x1 => if x1 ≤ v2 then (some h) else (gfR h v0 12 26).bind fun x2 => (alI h x2 v2).bind fun x3 => (rc h v0 12 (m_X12_isSo v0 x3 h)).bind fun x4 => if x4 = 0 then j_X12_findWords_75 v0 v1 v2 h k else (gfR h v0 12 26).bind fun x5 => (alI h x5 v2).bind fun x6 => (rc h v0 12 (m_X12_noteFit v0 x6 v1 h)).bind fun x7 => j_X12_findWords_75 v0 v1 v2 x7 k
set_option maxRecDepth 20000 in
theorem okb_X12_findWords_43 {r : Hp} (v0 : Nat) (v1 : Int32) (k : Int32 → Hp → Option Hp) (v2 : Int32) (h : Hp) (Hk : ∀ (v2q : Int32) (hq : Hp), k v2q hq = some r → Go M_X12_findWords (none, r) 43 [some (aA v0), some (aI v1), some (aI v2q)] [] hq) (H : b_X12_findWords_43 v0 v1 k v2 h = some r) : Go M_X12_findWords (none, r) 43 [some (aA v0), some (aI v1), some (aI v2)] [] h := by
  unfold b_X12_findWords_43 at H
  refine go_iloadn dX12_findWords_43 rfl ?_
  refine go_aloadn dX12_findWords_44 rfl ?_
  refine gm_getI fd_X12_337 dX12_findWords_45 H (fun x1 H => ?_)
  refine go_icmp_ge (tgt := 81) dX12_findWords_48 (by decide) (fun c1 => ?_) (fun c1 => ?_)
  · replace H := (gm_ite H).1 c1
    obtain rfl := Option.some.inj H
    exact go_return dX12_findWords_81 rfl
  · replace H := (gm_ite H).2 c1
    refine go_aloadn dX12_findWords_51 rfl ?_
    refine go_aloadn dX12_findWords_52 rfl ?_
    refine gm_getR fd_X12_44 dX12_findWords_53 H (fun x2 H => ?_)
    refine go_iloadn dX12_findWords_56 rfl ?_
    refine gm_iald dX12_findWords_57 H (fun x3 H => ?_)
    obtain ⟨c2, x4, ex4, H⟩ := gm_rc H
    refine go_callV (vs := [aI x3]) (stk := []) (o1 := (some (aI x4), h)) mk_X12_isSo sv_X12_findWords_449 cl_X12 rfl dX12_findWords_58 c2 rfl rfl (Nat.le_of_ble_eq_true rfl) (Nat.le_of_ble_eq_true rfl) (ok_X12_isSo ex4) (show Go M_X12_findWords (none, r) 61 [some (aA v0), some (aI v1), some (aI v2)] [aI x4] h from ?_)
    refine go_if_eq (tgt := 75) dX12_findWords_61 (by decide) (fun c3 => ?_) (fun c3 => ?_)
    · replace H := (gm_ite H).1 c3
      exact okj_X12_findWords_75 v0 v1 v2 h k Hk H
    · replace H := (gm_ite H).2 c3
      refine go_aloadn dX12_findWords_64 rfl ?_
      refine go_aloadn dX12_findWords_65 rfl ?_
      refine gm_getR fd_X12_44 dX12_findWords_66 H (fun x5 H => ?_)
      refine go_iloadn dX12_findWords_69 rfl ?_
      refine gm_iald dX12_findWords_70 H (fun x6 H => ?_)
      refine go_iloadn dX12_findWords_71 rfl ?_
      obtain ⟨c4, x7, ex7, H⟩ := gm_rc H
      refine go_callV (vs := [aI x6, aI v1]) (stk := []) (o1 := (none, x7)) mk_X12_noteFit sv_X12_findWords_452 cl_X12 rfl dX12_findWords_72 c4 rfl rfl (Nat.le_of_ble_eq_true rfl) (Nat.le_of_ble_eq_true rfl) (ok_X12_noteFit ex7) (show Go M_X12_findWords (none, r) 75 [some (aA v0), some (aI v1), some (aI v2)] [] x7 from ?_)
      exact okj_X12_findWords_75 v0 v1 v2 x7 k Hk H
def l_X12_findWords_43 (v0 : Nat) (v1 : Int32) (v2 : Int32) (h : Hp) : Option Hp := loopK FUEL (fun (k : Int32 × Hp → Option Hp) (s : Int32 × Hp) => b_X12_findWords_43 v0 v1 (fun v2q hq => k (v2q, hq)) s.1 s.2) (v2, h)
theorem okl_X12_findWords_43 {r : Hp} (v0 : Nat) (v1 : Int32) (v2 : Int32) (h : Hp) (H : l_X12_findWords_43 v0 v1 v2 h = some r) : Go M_X12_findWords (none, r) 43 [some (aA v0), some (aI v1), some (aI v2)] [] h := by
  unfold l_X12_findWords_43 at H
  exact go_loop (σ := Int32 × Hp) (body := (fun (k : Int32 × Hp → Option Hp) (s : Int32 × Hp) => b_X12_findWords_43 v0 v1 (fun v2q hq => k (v2q, hq)) s.1 s.2)) (fun s => [some (aA v0), some (aI v1), some (aI s.1)]) (fun s => s.2) (fun k s Hk H => okb_X12_findWords_43 v0 v1 (fun v2q hq => k (v2q, hq)) s.1 s.2  (fun v2q hq H => Hk (v2q, hq) H) H) FUEL (v2, h) H
def j_X12_findWords_37 (v0 : Nat) (v1 : Int32)  (h : Hp) : Option Hp :=
  (rc h v0 12 (m_X12_layWords v0 h)).bind fun x1 => l_X12_findWords_43 v0 v1 (0 : Int32) x1
set_option maxRecDepth 20000 in
theorem okj_X12_findWords_37 {r : Hp} (v0 : Nat) (v1 : Int32)  (h : Hp) (H : j_X12_findWords_37 v0 v1 h = some r) : Go M_X12_findWords (none, r) 37 [some (aA v0), some (aI v1), none] [] h := by
  unfold j_X12_findWords_37 at H
  refine go_aloadn dX12_findWords_37 rfl ?_
  obtain ⟨c1, x1, ex1, H⟩ := gm_rc H
  refine go_callV (vs := []) (stk := []) (o1 := (none, x1)) mk_X12_layWords sv_X12_findWords_334 cl_X12 rfl dX12_findWords_38 c1 rfl rfl (Nat.le_of_ble_eq_true rfl) (Nat.le_of_ble_eq_true rfl) (ok_X12_layWords ex1) (show Go M_X12_findWords (none, r) 41 [some (aA v0), some (aI v1), none] [] x1 from ?_)
  refine go_iconst (v := (0 : Int32)) dX12_findWords_41 rfl ?_
  refine go_istoren (loc2 := [some (aA v0), some (aI v1), some (aI (0 : Int32))]) dX12_findWords_42 rfl (by decide) rfl ?_
  exact okl_X12_findWords_43 v0 v1 (0 : Int32) x1 H
def m_X12_findWords (v0 : Nat) (v1 : Int32) (h : Hp) : Option Hp :=
  (pfI h v0 12 31 (0 : Int32)).bind fun hh1 => (pfI hh1 v0 12 32 (-2 : Int32)).bind fun hh2 => (pfI hh2 v0 12 33 (0 : Int32)).bind fun hh3 => l_X12_findWords_18 v0 v1 (fun hz1 => j_X12_findWords_37 v0 v1 hz1) (0 : Int32) hh3
set_option maxRecDepth 20000 in
theorem ok_X12_findWords {r : Hp} {v0 : Nat} {v1 : Int32} {h : Hp} (H : m_X12_findWords v0 v1 h = some r) : Ev M_X12_findWords [aA v0, aI v1] h (none, r) := by
  show Go M_X12_findWords (none, r) 0 [some (aA v0), some (aI v1), none] [] h
  unfold m_X12_findWords at H
  refine go_aloadn dX12_findWords_0 rfl ?_
  refine go_iconst (v := (0 : Int32)) dX12_findWords_1 rfl ?_
  refine gm_putI fd_X12_440 (Or.inl rfl) dX12_findWords_2 H (fun hh1 H => ?_)
  refine go_aloadn dX12_findWords_5 rfl ?_
  refine go_bipush (v := (-2 : Int32)) dX12_findWords_6 rfl ?_
  refine gm_putI fd_X12_443 (Or.inl rfl) dX12_findWords_8 H (fun hh2 H => ?_)
  refine go_aloadn dX12_findWords_11 rfl ?_
  refine go_iconst (v := (0 : Int32)) dX12_findWords_12 rfl ?_
  refine gm_putI fd_X12_446 (Or.inl rfl) dX12_findWords_13 H (fun hh3 H => ?_)
  refine go_iconst (v := (0 : Int32)) dX12_findWords_16 rfl ?_
  refine go_istoren (loc2 := [some (aA v0), some (aI v1), some (aI (0 : Int32))]) dX12_findWords_17 rfl (by decide) rfl ?_
  refine okl_X12_findWords_18 v0 v1 (fun hz1 => j_X12_findWords_37 v0 v1 hz1) (0 : Int32) hh3 ?_ H
  · intro hz1 H
    exact okj_X12_findWords_37 v0 v1 hz1  H
/-! X12_sureLetter -/
def b_X12_sureLetter_2 (v0 : Nat) (h : Hp) (k : Int32 → Option Int32) (v1 : Int32) : Option Int32 :=
  if (27 : Int32) ≤ v1 then (some (-1 : Int32)) else (gfI h v0 12 33).bind fun x1 => if ¬ x1 = (ishlF (1 : Int32) v1) then (k (v1 + (1 : Int32))) else some v1
set_option maxRecDepth 20000 in
theorem okb_X12_sureLetter_2 {r : Int32} (v0 : Nat) (h : Hp) (k : Int32 → Option Int32) (v1 : Int32) (Hk : ∀ (v1q : Int32), k v1q = some r → Go M_X12_sureLetter (some (aI r), h) 2 [some (aA v0), some (aI v1q)] [] h) (H : b_X12_sureLetter_2 v0 h k v1 = some r) : Go M_X12_sureLetter (some (aI r), h) 2 [some (aA v0), some (aI v1)] [] h := by
  unfold b_X12_sureLetter_2 at H
  refine go_iloadn dX12_sureLetter_2 rfl ?_
  refine go_bipush (v := (27 : Int32)) dX12_sureLetter_3 rfl ?_
  refine go_icmp_ge (tgt := 26) dX12_sureLetter_5 (by decide) (fun c1 => ?_) (fun c1 => ?_)
  · replace H := (gm_ite H).1 c1
    refine go_iconst (v := (-1 : Int32)) dX12_sureLetter_26 rfl ?_
    obtain rfl := Option.some.inj H
    exact go_ireturn dX12_sureLetter_27 (tyI_int rfl)
  · replace H := (gm_ite H).2 c1
    refine go_aloadn dX12_sureLetter_8 rfl ?_
    refine gm_getI fd_X12_446 dX12_sureLetter_9 H (fun x1 H => ?_)
    refine go_iconst (v := (1 : Int32)) dX12_sureLetter_12 rfl ?_
    refine go_iloadn dX12_sureLetter_13 rfl ?_
    refine go_ishl dX12_sureLetter_14 ?_
    refine go_icmp_ne (tgt := 20) dX12_sureLetter_15 (by decide) (fun c2 => ?_) (fun c2 => ?_)
    · replace H := (gm_ite H).1 c2
      refine go_iinc (v := (v1 + (1 : Int32))) (loc2 := [some (aA v0), some (aI (v1 + (1 : Int32)))]) dX12_sureLetter_20 rfl rfl (by decide) rfl ?_
      refine go_goto (tgt := 2) dX12_sureLetter_23 (by decide) ?_
      exact Hk (v1 + (1 : Int32)) H
    · replace H := (gm_ite H).2 c2
      refine go_iloadn dX12_sureLetter_18 rfl ?_
      obtain rfl := Option.some.inj H
      exact go_ireturn dX12_sureLetter_19 (tyI_int rfl)
def l_X12_sureLetter_2 (v0 : Nat) (h : Hp) (v1 : Int32) : Option Int32 := loopK FUEL (fun (k : Int32 → Option Int32) (s : Int32) => b_X12_sureLetter_2 v0 h (fun v1q => k v1q) s) v1
theorem okl_X12_sureLetter_2 {r : Int32} (v0 : Nat) (h : Hp) (v1 : Int32) (H : l_X12_sureLetter_2 v0 h v1 = some r) : Go M_X12_sureLetter (some (aI r), h) 2 [some (aA v0), some (aI v1)] [] h := by
  unfold l_X12_sureLetter_2 at H
  exact go_loop (σ := Int32) (body := (fun (k : Int32 → Option Int32) (s : Int32) => b_X12_sureLetter_2 v0 h (fun v1q => k v1q) s)) (fun s => [some (aA v0), some (aI s)]) (fun s => h) (fun k s Hk H => okb_X12_sureLetter_2 v0 h (fun v1q => k v1q) s  (fun v1q H => Hk v1q H) H) FUEL v1 H
def m_X12_sureLetter (v0 : Nat) (h : Hp) : Option Int32 :=
  l_X12_sureLetter_2 v0 h (1 : Int32)
set_option maxRecDepth 20000 in
theorem ok_X12_sureLetter {r : Int32} {v0 : Nat} {h : Hp} (H : m_X12_sureLetter v0 h = some r) : Ev M_X12_sureLetter [aA v0] h (some (aI r), h) := by
  show Go M_X12_sureLetter (some (aI r), h) 0 [some (aA v0), none] [] h
  unfold m_X12_sureLetter at H
  refine go_iconst (v := (1 : Int32)) dX12_sureLetter_0 rfl ?_
  refine go_istoren (loc2 := [some (aA v0), some (aI (1 : Int32))]) dX12_sureLetter_1 rfl (by decide) rfl ?_
  exact okl_X12_sureLetter_2 v0 h (1 : Int32) H
