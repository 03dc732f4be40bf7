/-! X12_twins -/
def j_X12_twins_88 (v0 : Nat) (v2 : Int32) (v3 : Int32) (s0 : Int32) (s1 : Int32) (h : Hp) (K96 : Int32 → Option Int32) (k : Int32 → Int32 → Option Int32) : Option Int32 :=
  k (s0 + s1) (v3 + (1 : Int32))
set_option maxRecDepth 20000 in
theorem okj_X12_twins_88 {r : Int32} (v0 : Nat) (v2 : Int32) (v3 : Int32) (s0 : Int32) (s1 : Int32) (h : Hp) (K96 : Int32 → Option Int32) (k : Int32 → Int32 → Option Int32) (HK96 : ∀ (v1q : Int32) , K96 v1q = some r → Go M_X12_twins (some (aI r), h) 96 [some (aA v0), some (aI v1q), some (aI v2), none, none] [] h) (Hk : ∀ (v1q : Int32) (v3q : Int32), k v1q v3q = some r → Go M_X12_twins (some (aI r), h) 12 [some (aA v0), some (aI v1q), some (aI v2), some (aI v3q), none] [] h) (H : j_X12_twins_88 v0 v2 v3 s0 s1 h K96 k = some r) : Go M_X12_twins (some (aI r), h) 88 [some (aA v0), none, some (aI v2), some (aI v3), none] [aI s1, aI s0] h := by
  unfold j_X12_twins_88 at H
  refine go_iadd dX12_twins_88 ?_
  refine go_istoren (loc2 := [some (aA v0), some (aI (s0 + s1)), some (aI v2), some (aI v3), none]) dX12_twins_89 rfl (by decide) rfl ?_
  refine go_iinc (v := (v3 + (1 : Int32))) (loc2 := [some (aA v0), some (aI (s0 + s1)), some (aI v2), some (aI (v3 + (1 : Int32))), none]) dX12_twins_90 rfl rfl (by decide) rfl ?_
  refine go_goto (tgt := 12) dX12_twins_93 (by decide) ?_
  exact Hk (s0 + s1) (v3 + (1 : Int32)) H
def j_X12_twins_52 (v0 : Nat) (v1 : Int32) (v2 : Int32) (v3 : Int32) (s0 : Int32) (h : Hp) (K96 : Int32 → Option Int32) (k : Int32 → Int32 → Option Int32) : Option Int32 :=
  if s0 = 0 then j_X12_twins_88 v0 v2 v3 v1 (0 : Int32) h K96 k else (rc h v0 12 (m_X12_areAlike v0 (v2 / (10 : Int32)) (iremF v2 (10 : Int32)) (v3 / (10 : Int32)) (iremF v3 (10 : Int32)) h)).bind fun x1 => j_X12_twins_88 v0 v2 v3 v1 (if x1 = 0 then (0 : Int32) else (1 : Int32)) h K96 k
set_option maxRecDepth 20000 in
theorem okj_X12_twins_52 {r : Int32} (v0 : Nat) (v1 : Int32) (v2 : Int32) (v3 : Int32) (s0 : Int32) (h : Hp) (K96 : Int32 → Option Int32) (k : Int32 → Int32 → Option Int32) (HK96 : ∀ (v1q : Int32) , K96 v1q = some r → Go M_X12_twins (some (aI r), h) 96 [some (aA v0), some (aI v1q), some (aI v2), none, none] [] h) (Hk : ∀ (v1q : Int32) (v3q : Int32), k v1q v3q = some r → Go M_X12_twins (some (aI r), h) 12 [some (aA v0), some (aI v1q), some (aI v2), some (aI v3q), none] [] h) (H : j_X12_twins_52 v0 v1 v2 v3 s0 h K96 k = some r) : Go M_X12_twins (some (aI r), h) 52 [some (aA v0), some (aI v1), some (aI v2), some (aI v3), none] [aI s0] h := by
  unfold j_X12_twins_52 at H
  refine go_istore (loc2 := [some (aA v0), some (aI v1), some (aI v2), some (aI v3), some (aI s0)]) dX12_twins_52 (by decide) rfl ?_
  refine go_iloadn dX12_twins_54 rfl ?_
  refine go_iload dX12_twins_55 rfl ?_
  refine go_if_eq (tgt := 87) dX12_twins_57 (by decide) (fun c1 => ?_) (fun c1 => ?_)
  · replace H := (gm_ite H).1 c1
    refine go_iconst (v := (0 : Int32)) dX12_twins_87 rfl ?_
    refine go_mask [true, false, true, true, false] (loc' := [some (aA v0), none, some (aI v2), some (aI v3), none]) rfl ?_
    exact okj_X12_twins_88 v0 v2 v3 v1 (0 : Int32) h K96 k HK96 Hk H
  · replace H := (gm_ite H).2 c1
    refine go_aloadn dX12_twins_60 rfl ?_
    refine go_iloadn dX12_twins_61 rfl ?_
    refine go_bipush (v := (10 : Int32)) dX12_twins_62 rfl ?_
    refine go_idiv dX12_twins_64 (by decide) ?_
    refine go_iloadn dX12_twins_65 rfl ?_
    refine go_bipush (v := (10 : Int32)) dX12_twins_66 rfl ?_
    refine go_irem dX12_twins_68 (by decide) ?_
    refine go_iloadn dX12_twins_69 rfl ?_
    refine go_bipush (v := (10 : Int32)) dX12_twins_70 rfl ?_
    refine go_idiv dX12_twins_72 (by decide) ?_
    refine go_iloadn dX12_twins_73 rfl ?_
    refine go_bipush (v := (10 : Int32)) dX12_twins_74 rfl ?_
    refine go_irem dX12_twins_76 (by decide) ?_
    obtain ⟨c2, x1, ex1, H⟩ := gm_rc H
    refine go_callV (vs := [aI (v2 / (10 : Int32)), aI (iremF v2 (10 : Int32)), aI (v3 / (10 : Int32)), aI (iremF v3 (10 : Int32))]) (stk := [aI v1]) (o1 := (some (aI x1), h)) mk_X12_areAlike sv_X12_twins_287 cl_X12 rfl dX12_twins_77 c2 rfl rfl (Nat.le_of_ble_eq_true rfl) (Nat.le_of_ble_eq_true rfl) (ok_X12_areAlike ex1) (show Go M_X12_twins (some (aI r), h) 80 [some (aA v0), some (aI v1), some (aI v2), some (aI v3), some (aI s0)] [aI x1, aI v1] h from ?_)
    refine go_if_eq (tgt := 87) dX12_twins_80 (by decide) (fun c3 => ?_) (fun c3 => ?_)
    · rw [if_pos c3] at H
      refine go_iconst (v := (0 : Int32)) dX12_twins_87 rfl ?_
      refine go_mask [true, false, true, true, false] (loc' := [some (aA v0), none, some (aI v2), some (aI v3), none]) rfl ?_
      exact okj_X12_twins_88 v0 v2 v3 v1 (0 : Int32) h K96 k HK96 Hk H
    · rw [if_neg c3] at H
      refine go_iconst (v := (1 : Int32)) dX12_twins_83 rfl ?_
      refine go_goto (tgt := 88) dX12_twins_84 (by decide) ?_
      refine go_mask [true, false, true, true, false] (loc' := [some (aA v0), none, some (aI v2), some (aI v3), none]) rfl ?_
      exact okj_X12_twins_88 v0 v2 v3 v1 (1 : Int32) h K96 k HK96 Hk H
def b_X12_twins_12 (v0 : Nat) (v2 : Int32) (h : Hp) (K96 : Int32 → Option Int32) (k : Int32 → Int32 → Option Int32) (v1 : Int32) (v3 : Int32) : Option Int32 :=
  if v2 ≤ v3 then K96 v1 else (rc h v0 12 (m_X12_isVersion v0 (v2 / (10 : Int32)) (iremF v2 (10 : Int32)) h)).bind fun x1 => if x1 = 0 then j_X12_twins_52 v0 v1 v2 v3 (0 : Int32) h K96 k else (rc h v0 12 (m_X12_isVersion v0 (v3 / (10 : Int32)) (iremF v3 (10 : Int32)) h)).bind fun x2 => j_X12_twins_52 v0 v1 v2 v3 (if x2 = 0 then (0 : Int32) else (1 : Int32)) h K96 k
set_option maxRecDepth 20000 in
theorem okb_X12_twins_12 {r : Int32} (v0 : Nat) (v2 : Int32) (h : Hp) (K96 : Int32 → Option Int32) (k : Int32 → Int32 → Option Int32) (v1 : Int32) (v3 : Int32) (HK96 : ∀ (v1q : Int32) , K96 v1q = some r → Go M_X12_twins (some (aI r), h) 96 [some (aA v0), some (aI v1q), some (aI v2), none, none] [] h) (Hk : ∀ (v1q : Int32) (v3q : Int32), k v1q v3q = some r → Go M_X12_twins (some (aI r), h) 12 [some (aA v0), some (aI v1q), some (aI v2), some (aI v3q), none] [] h) (H : b_X12_twins_12 v0 v2 h K96 k v1 v3 = some r) : Go M_X12_twins (some (aI r), h) 12 [some (aA v0), some (aI v1), some (aI v2), some (aI v3), none] [] h := by
  unfold b_X12_twins_12 at H
  refine go_iloadn dX12_twins_12 rfl ?_
  refine go_iloadn dX12_twins_13 rfl ?_
  refine go_icmp_ge (tgt := 96) dX12_twins_14 (by decide) (fun c1 => ?_) (fun c1 => ?_)
  · replace H := (gm_ite H).1 c1
    refine go_mask [true, true, true, false, false] (loc' := [some (aA v0), some (aI v1), some (aI v2), none, none]) rfl ?_
    exact HK96 v1 H
  · replace H := (gm_ite H).2 c1
    refine go_aloadn dX12_twins_17 rfl ?_
    refine go_iloadn dX12_twins_18 rfl ?_
    refine go_bipush (v := (10 : Int32)) dX12_twins_19 rfl ?_
    refine go_idiv dX12_twins_21 (by decide) ?_
    refine go_iloadn dX12_twins_22 rfl ?_
    refine go_bipush (v := (10 : Int32)) dX12_twins_23 rfl ?_
    refine go_irem dX12_twins_25 (by decide) ?_
    obtain ⟨c2, x1, ex1, H⟩ := gm_rc H
    refine go_callV (vs := [aI (v2 / (10 : Int32)), aI (iremF v2 (10 : Int32))]) (stk := []) (o1 := (some (aI x1), h)) mk_X12_isVersion sv_X12_twins_284 cl_X12 rfl dX12_twins_26 c2 rfl rfl (Nat.le_of_ble_eq_true rfl) (Nat.le_of_ble_eq_true rfl) (ok_X12_isVersion ex1) (show Go M_X12_twins (some (aI r), h) 29 [some (aA v0), some (aI v1), some (aI v2), some (aI v3), none] [aI x1] h from ?_)
    refine go_if_eq (tgt := 51) dX12_twins_29 (by decide) (fun c3 => ?_) (fun c3 => ?_)
    · replace H := (gm_ite H).1 c3
      refine go_iconst (v := (0 : Int32)) dX12_twins_51 rfl ?_
      exact okj_X12_twins_52 v0 v1 v2 v3 (0 : Int32) h K96 k HK96 Hk H
    · replace H := (gm_ite H).2 c3
      refine go_aloadn dX12_twins_32 rfl ?_
      refine go_iloadn dX12_twins_33 rfl ?_
      refine go_bipush (v := (10 : Int32)) dX12_twins_34 rfl ?_
      refine go_idiv dX12_twins_36 (by decide) ?_
      refine go_iloadn dX12_twins_37 rfl ?_
      refine go_bipush (v := (10 : Int32)) dX12_twins_38 rfl ?_
      refine go_irem dX12_twins_40 (by decide) ?_
      obtain ⟨c4, x2, ex2, H⟩ := gm_rc H
      refine go_callV (vs := [aI (v3 / (10 : Int32)), aI (iremF v3 (10 : Int32))]) (stk := []) (o1 := (some (aI x2), h)) mk_X12_isVersion sv_X12_twins_284 cl_X12 rfl dX12_twins_41 c4 rfl rfl (Nat.le_of_ble_eq_true rfl) (Nat.le_of_ble_eq_true rfl) (ok_X12_isVersion ex2) (show Go M_X12_twins (some (aI r), h) 44 [some (aA v0), some (aI v1), some (aI v2), some (aI v3), none] [aI x2] h from ?_)
      refine go_if_eq (tgt := 51) dX12_twins_44 (by decide) (fun c5 => ?_) (fun c5 => ?_)
      · rw [if_pos c5] at H
        refine go_iconst (v := (0 : Int32)) dX12_twins_51 rfl ?_
        exact okj_X12_twins_52 v0 v1 v2 v3 (0 : Int32) h K96 k HK96 Hk H
      · rw [if_neg c5] at H
        refine go_iconst (v := (1 : Int32)) dX12_twins_47 rfl ?_
        refine go_goto (tgt := 52) dX12_twins_48 (by decide) ?_
        exact okj_X12_twins_52 v0 v1 v2 v3 (1 : Int32) h K96 k HK96 Hk H
def l_X12_twins_12 (v0 : Nat) (v2 : Int32) (h : Hp) (K96 : Int32 → Option Int32) (v1 : Int32) (v3 : Int32) : Option Int32 := loopK FUEL (fun (k : Int32 × Int32 → Option Int32) (s : Int32 × Int32) => b_X12_twins_12 v0 v2 h K96 (fun v1q v3q => k (v1q, v3q)) s.1 s.2) (v1, v3)
theorem okl_X12_twins_12 {r : Int32} (v0 : Nat) (v2 : Int32) (h : Hp) (K96 : Int32 → Option Int32) (v1 : Int32) (v3 : Int32) (HK96 : ∀ (v1q : Int32) , K96 v1q = some r → Go M_X12_twins (some (aI r), h) 96 [some (aA v0), some (aI v1q), some (aI v2), none, none] [] h) (H : l_X12_twins_12 v0 v2 h K96 v1 v3 = some r) : Go M_X12_twins (some (aI r), h) 12 [some (aA v0), some (aI v1), some (aI v2), some (aI v3), none] [] h := by
  unfold l_X12_twins_12 at H
  exact go_loop (σ := Int32 × Int32) (body := (fun (k : Int32 × Int32 → Option Int32) (s : Int32 × Int32) => b_X12_twins_12 v0 v2 h K96 (fun v1q v3q => k (v1q, v3q)) s.1 s.2)) (fun s => [some (aA v0), some (aI s.1), some (aI v2), some (aI s.2), none]) (fun s => h) (fun k s Hk H => okb_X12_twins_12 v0 v2 h K96 (fun v1q v3q => k (v1q, v3q)) s.1 s.2 HK96 (fun v1q v3q H => Hk (v1q, v3q) H) H) FUEL (v1, v3) H
def j_X12_twins_96 (v0 : Nat) (v1 : Int32) (v2 : Int32)  (h : Hp) (k : Int32 → Int32 → Option Int32) : Option Int32 :=
  k v1 (v2 + (1 : Int32))
set_option maxRecDepth 20000 in
theorem okj_X12_twins_96 {r : Int32} (v0 : Nat) (v1 : Int32) (v2 : Int32)  (h : Hp) (k : Int32 → Int32 → Option Int32) (Hk : ∀ (v1q : Int32) (v2q : Int32), k v1q v2q = some r → Go M_X12_twins (some (aI r), h) 4 [some (aA v0), some (aI v1q), some (aI v2q), none, none] [] h) (H : j_X12_twins_96 v0 v1 v2 h k = some r) : Go M_X12_twins (some (aI r), h) 96 [some (aA v0), some (aI v1), some (aI v2), none, none] [] h := by
  unfold j_X12_twins_96 at H
  refine go_iinc (v := (v2 + (1 : Int32))) (loc2 := [some (aA v0), some (aI v1), some (aI (v2 + (1 : Int32))), none, none]) dX12_twins_96 rfl rfl (by decide) rfl ?_
  refine go_goto (tgt := 4) dX12_twins_99 (by decide) ?_
  exact Hk v1 (v2 + (1 : Int32)) H
def b_X12_twins_4 (v0 : Nat) (h : Hp) (k : Int32 → Int32 → Option Int32) (v1 : Int32) (v2 : Int32) : Option Int32 :=
  if (40 : Int32) ≤ v2 then (some v1) else l_X12_twins_12 v0 v2 h (fun a1_1 => j_X12_twins_96 v0 a1_1 v2 h k) v1 (0 : Int32)
set_option maxRecDepth 20000 in
theorem okb_X12_twins_4 {r : Int32} (v0 : Nat) (h : Hp) (k : Int32 → Int32 → Option Int32) (v1 : Int32) (v2 : Int32) (Hk : ∀ (v1q : Int32) (v2q : Int32), k v1q v2q = some r → Go M_X12_twins (some (aI r), h) 4 [some (aA v0), some (aI v1q), some (aI v2q), none, none] [] h) (H : b_X12_twins_4 v0 h k v1 v2 = some r) : Go M_X12_twins (some (aI r), h) 4 [some (aA v0), some (aI v1), some (aI v2), none, none] [] h := by
  unfold b_X12_twins_4 at H
  refine go_iloadn dX12_twins_4 rfl ?_
  refine go_bipush (v := (40 : Int32)) dX12_twins_5 rfl ?_
  refine go_icmp_ge (tgt := 102) dX12_twins_7 (by decide) (fun c1 => ?_) (fun c1 => ?_)
  · replace H := (gm_ite H).1 c1
    refine go_iloadn dX12_twins_102 rfl ?_
    obtain rfl := Option.some.inj H
    exact go_ireturn dX12_twins_103 (tyI_int rfl)
  · replace H := (gm_ite H).2 c1
    refine go_iconst (v := (0 : Int32)) dX12_twins_10 rfl ?_
    refine go_istoren (loc2 := [some (aA v0), some (aI v1), some (aI v2), some (aI (0 : Int32)), none]) dX12_twins_11 rfl (by decide) rfl ?_
    refine okl_X12_twins_12 v0 v2 h (fun a1_1 => j_X12_twins_96 v0 a1_1 v2 h k) v1 (0 : Int32) ?_ H
    · intro a1_1 H
      exact okj_X12_twins_96 v0 a1_1 v2 h k Hk H
def l_X12_twins_4 (v0 : Nat) (h : Hp) (v1 : Int32) (v2 : Int32) : Option Int32 := loopK FUEL (fun (k : Int32 × Int32 → Option Int32) (s : Int32 × Int32) => b_X12_twins_4 v0 h (fun v1q v2q => k (v1q, v2q)) s.1 s.2) (v1, v2)
theorem okl_X12_twins_4 {r : Int32} (v0 : Nat) (h : Hp) (v1 : Int32) (v2 : Int32) (H : l_X12_twins_4 v0 h v1 v2 = some r) : Go M_X12_twins (some (aI r), h) 4 [some (aA v0), some (aI v1), some (aI v2), none, none] [] h := by
  unfold l_X12_twins_4 at H
  exact go_loop (σ := Int32 × Int32) (body := (fun (k : Int32 × Int32 → Option Int32) (s : Int32 × Int32) => b_X12_twins_4 v0 h (fun v1q v2q => k (v1q, v2q)) s.1 s.2)) (fun s => [some (aA v0), some (aI s.1), some (aI s.2), none, none]) (fun s => h) (fun k s Hk H => okb_X12_twins_4 v0 h (fun v1q v2q => k (v1q, v2q)) s.1 s.2  (fun v1q v2q H => Hk (v1q, v2q) H) H) FUEL (v1, v2) H
def m_X12_twins (v0 : Nat) (h : Hp) : Option Int32 :=
  l_X12_twins_4 v0 h (0 : Int32) (0 : Int32)
set_option maxRecDepth 20000 in
theorem ok_X12_twins {r : Int32} {v0 : Nat} {h : Hp} (H : m_X12_twins v0 h = some r) : Ev M_X12_twins [aA v0] h (some (aI r), h) := by
  show Go M_X12_twins (some (aI r), h) 0 [some (aA v0), none, none, none, none] [] h
  unfold m_X12_twins at H
  refine go_iconst (v := (0 : Int32)) dX12_twins_0 rfl ?_
  refine go_istoren (loc2 := [some (aA v0), some (aI (0 : Int32)), none, none, none]) dX12_twins_1 rfl (by decide) rfl ?_
  refine go_iconst (v := (0 : Int32)) dX12_twins_2 rfl ?_
  refine go_istoren (loc2 := [some (aA v0), some (aI (0 : Int32)), some (aI (0 : Int32)), none, none]) dX12_twins_3 rfl (by decide) rfl ?_
  exact okl_X12_twins_4 v0 h (0 : Int32) (0 : Int32) H
/-! X12_widened -/
def b_X12_widened_2  (h : Hp) (k : Int32 → Option Int32) (v1 : Int32) : Option Int32 :=
  if (19683 : Int32) ≤ v1 then (some v1) else k (v1 * (27 : Int32))
set_option maxRecDepth 20000 in
theorem okb_X12_widened_2 {r : Int32}  (h : Hp) (k : Int32 → Option Int32) (v1 : Int32) (Hk : ∀ (v1q : Int32), k v1q = some r → Go M_X12_widened (some (aI r), h) 2 [none, some (aI v1q)] [] h) (H : b_X12_widened_2 h k v1 = some r) : Go M_X12_widened (some (aI r), h) 2 [none, some (aI v1)] [] h := by
  unfold b_X12_widened_2 at H
  refine go_iloadn dX12_widened_2 rfl ?_
  refine go_sipush (v := (19683 : Int32)) dX12_widened_3 rfl ?_
  refine go_icmp_ge (tgt := 17) dX12_widened_6 (by decide) (fun c1 => ?_) (fun c1 => ?_)
  · replace H := (gm_ite H).1 c1
    refine go_iloadn dX12_widened_17 rfl ?_
    obtain rfl := Option.some.inj H
    exact go_ireturn dX12_widened_18 (tyI_int rfl)
  · replace H := (gm_ite H).2 c1
    refine go_iloadn dX12_widened_9 rfl ?_
    refine go_bipush (v := (27 : Int32)) dX12_widened_10 rfl ?_
    refine go_imul dX12_widened_12 ?_
    refine go_istoren (loc2 := [none, some (aI (v1 * (27 : Int32)))]) dX12_widened_13 rfl (by decide) rfl ?_
    refine go_goto (tgt := 2) dX12_widened_14 (by decide) ?_
    exact Hk (v1 * (27 : Int32)) H
def l_X12_widened_2  (h : Hp) (v1 : Int32) : Option Int32 := loopK FUEL (fun (k : Int32 → Option Int32) (s : Int32) => b_X12_widened_2 h (fun v1q => k v1q) s) v1
theorem okl_X12_widened_2 {r : Int32}  (h : Hp) (v1 : Int32) (H : l_X12_widened_2 h v1 = some r) : Go M_X12_widened (some (aI r), h) 2 [none, some (aI v1)] [] h := by
  unfold l_X12_widened_2 at H
  exact go_loop (σ := Int32) (body := (fun (k : Int32 → Option Int32) (s : Int32) => b_X12_widened_2 h (fun v1q => k v1q) s)) (fun s => [none, some (aI s)]) (fun s => h) (fun k s Hk H => okb_X12_widened_2 h (fun v1q => k v1q) s  (fun v1q H => Hk v1q H) H) FUEL v1 H
def m_X12_widened (v0 : Int32) (h : Hp) : Option Int32 :=
  l_X12_widened_2 h v0
set_option maxRecDepth 20000 in
theorem ok_X12_widened {r : Int32} {v0 : Int32} {h : Hp} (H : m_X12_widened v0 h = some r) : Ev M_X12_widened [aI v0] h (some (aI r), h) := by
  show Go M_X12_widened (some (aI r), h) 0 [some (aI v0), none] [] h
  unfold m_X12_widened at H
  refine go_iloadn dX12_widened_0 rfl ?_
  refine go_istoren (loc2 := [some (aI v0), some (aI v0)]) dX12_widened_1 rfl (by decide) rfl ?_
  refine go_mask [false, true] (loc' := [none, some (aI v0)]) rfl ?_
  exact okl_X12_widened_2 h v0 H
/-! X12_layWords -/
def b_X12_layWords_23 (v0 : Nat) (v1 : Int32) (v2 : Int32) (h : Hp) (K53 : Int32 → Option Hp) (k : Int32 → Option Hp) (v3 : Int32) : Option Hp :=
  (gfI h v0 12 25).bind fun x1 => if x1 ≤ v3 then K53 v3 else (gfR h v0 12 26).bind fun x2 => (alI h x2 v3).bind fun x3 => (m_X12_widened x3 h).bind fun x4 => (m_X12_widened v2 h).bind fun x5 => if x5 ≤ x4 then K53 v3 else k (v3 + (1 : Int32))
set_option maxRecDepth 20000 in
theorem okb_X12_layWords_23 {r : Hp} (v0 : Nat) (v1 : Int32) (v2 : Int32) (h : Hp) (K53 : Int32 → Option Hp) (k : Int32 → Option Hp) (v3 : Int32) (HK53 : ∀ (v3q : Int32) , K53 v3q = some r → Go M_X12_layWords (none, r) 53 [some (aA v0), some (aI v1), some (aI v2), some (aI v3q), none, none] [] h) (Hk : ∀ (v3q : Int32), k v3q = some r → Go M_X12_layWords (none, r) 23 [some (aA v0), some (aI v1), some (aI v2), some (aI v3q), none, none] [] h) (H : b_X12_layWords_23 v0 v1 v2 h K53 k v3 = some r) : Go M_X12_layWords (none, r) 23 [some (aA v0), some (aI v1), some (aI v2), some (aI v3), none, none] [] h := by
  unfold b_X12_layWords_23 at H
  refine go_iloadn dX12_layWords_23 rfl ?_
  refine go_aloadn dX12_layWords_24 rfl ?_
  refine gm_getI fd_X12_337 dX12_layWords_25 H (fun x1 H => ?_)
  refine go_icmp_ge (tgt := 53) dX12_layWords_28 (by decide) (fun c1 => ?_) (fun c1 => ?_)
  · replace H := (gm_ite H).1 c1
    exact HK53 v3 H
  · replace H := (gm_ite H).2 c1
    refine go_aloadn dX12_layWords_31 rfl ?_
    refine gm_getR fd_X12_44 dX12_layWords_32 H (fun x2 H => ?_)
    refine go_iloadn dX12_layWords_35 rfl ?_
    refine gm_iald dX12_layWords_36 H (fun x3 H => ?_)
    obtain ⟨x4, ex4, H⟩ := bind_some H
    refine go_callS (vs := [aI x3]) (stk := []) (o1 := (some (aI x4), h)) mk_X12_widened ss_X12_layWords_358 dX12_layWords_37 rfl rfl (Nat.le_of_ble_eq_true rfl) (Nat.le_of_ble_eq_true rfl) (ok_X12_widened ex4) (show Go M_X12_layWords (none, r) 40 [some (aA v0), some (aI v1), some (aI v2), some (aI v3), none, none] [aI x4] h from ?_)
    refine go_iloadn dX12_layWords_40 rfl ?_
    obtain ⟨x5, ex5, H⟩ := bind_some H
    refine go_callS (vs := [aI v2]) (stk := [aI x4]) (o1 := (some (aI x5), h)) mk_X12_widened ss_X12_layWords_358 dX12_layWords_41 rfl rfl (Nat.le_of_ble_eq_true rfl) (Nat.le_of_ble_eq_true rfl) (ok_X12_widened ex5) (show Go M_X12_layWords (none, r) 44 [some (aA v0), some (aI v1), some (aI v2), some (aI v3), none, none] [aI x5, aI x4] h from ?_)
    refine go_icmp_ge (tgt := 53) dX12_layWords_44 (by decide) (fun c4 => ?_) (fun c4 => ?_)
    · replace H := (gm_ite H).1 c4
      exact HK53 v3 H
    · replace H := (gm_ite H).2 c4
      refine go_iinc (v := (v3 + (1 : Int32))) (loc2 := [some (aA v0), some (aI v1), some (aI v2), some (aI (v3 + (1 : Int32))), none, none]) dX12_layWords_47 rfl rfl (by decide) rfl ?_
      refine go_goto (tgt := 23) dX12_layWords_50 (by decide) ?_
      exact Hk (v3 + (1 : Int32)) H
def l_X12_layWords_23 (v0 : Nat) (v1 : Int32) (v2 : Int32) (h : Hp) (K53 : Int32 → Option Hp) (v3 : Int32) : Option Hp := loopK FUEL (fun (k : Int32 → Option Hp) (s : Int32) => b_X12_layWords_23 v0 v1 v2 h K53 (fun v3q => k v3q) s) v3
theorem okl_X12_layWords_23 {r : Hp} (v0 : Nat) (v1 : Int32) (v2 : Int32) (h : Hp) (K53 : Int32 → Option Hp) (v3 : Int32) (HK53 : ∀ (v3q : Int32) , K53 v3q = some r → Go M_X12_layWords (none, r) 53 [some (aA v0), some (aI v1), some (aI v2), some (aI v3q), none, none] [] h) (H : l_X12_layWords_23 v0 v1 v2 h K53 v3 = some r) : Go M_X12_layWords (none, r) 23 [some (aA v0), some (aI v1), some (aI v2), some (aI v3), none, none] [] h := by
  unfold l_X12_layWords_23 at H
  exact go_loop (σ := Int32) (body := (fun (k : Int32 → Option Hp) (s : Int32) => b_X12_layWords_23 v0 v1 v2 h K53 (fun v3q => k v3q) s)) (fun s => [some (aA v0), some (aI v1), some (aI v2), some (aI s), none, none]) (fun s => h) (fun k s Hk H => okb_X12_layWords_23 v0 v1 v2 h K53 (fun v3q => k v3q) s HK53 (fun v3q H => Hk v3q H) H) FUEL v3 H
def b_X12_layWords_84 (v0 : Nat) (v1 : Int32) (v2 : Int32) (v3 : Int32) (v4 : Int32) (K117 : Hp → Option Hp) (k : Int32 → Hp → Option Hp) (v5 : Int32) (h : Hp) : Option Hp :=
  if v5 ≤ v3 then K117 h else if ¬ v4 = 0 then K117 h else (gfR h v0 12 26).bind fun x1 => (gfR h v0 12 26).bind fun x2 => (alI h x2 (v5 - (1 : Int32))).bind fun x3 => (asI h x1 v5 x3).bind fun hh1 => k (v5 + (-1 : Int32)) hh1
set_option maxRecDepth 20000 in
theorem okb_X12_layWords_84 {r : Hp} (v0 : Nat) (v1 : Int32) (v2 : Int32) (v3 : Int32) (v4 : Int32) (K117 : Hp → Option Hp) (k : Int32 → Hp → Option Hp) (v5 : Int32) (h : Hp) (HK117 : ∀   (hq : Hp), K117 hq = some r → Go M_X12_layWords (none, r) 117 [some (aA v0), some (aI v1), some (aI v2), some (aI v3), some (aI v4), none] [] hq) (Hk : ∀ (v5q : Int32) (hq : Hp), k v5q hq = some r → Go M_X12_layWords (none, r) 84 [some (aA v0), some (aI v1), some (aI v2), some (aI v3), some (aI v4), some (aI v5q)] [] hq) (H : b_X12_layWords_84 v0 v1 v2 v3 v4 K117 k v5 h = some r) : Go M_X12_layWords (none, r) 84 [some (aA v0), some (aI v1), some (aI v2), some (aI v3), some (aI v4), some (aI v5)] [] h := by
  unfold b_X12_layWords_84 at H
  refine go_iload dX12_layWords_84 rfl ?_
  refine go_iloadn dX12_layWords_86 rfl ?_
  refine go_icmp_le (tgt := 117) dX12_layWords_87 (by decide) (fun c1 => ?_) (fun c1 => ?_)
  · replace H := (gm_ite H).1 c1
    refine go_mask [true, true, true, true, true, false] (loc' := [some (aA v0), some (aI v1), some (aI v2), some (aI v3), some (aI v4), none]) rfl ?_
    exact HK117 h H
  · replace H := (gm_ite H).2 c1
    refine go_iload dX12_layWords_90 rfl ?_
    refine go_if_ne (tgt := 117) dX12_layWords_92 (by decide) (fun c2 => ?_) (fun c2 => ?_)
    · replace H := (gm_ite H).1 c2
      refine go_mask [true, true, true, true, true, false] (loc' := [some (aA v0), some (aI v1), some (aI v2), some (aI v3), some (aI v4), none]) rfl ?_
      exact HK117 h H
    · replace H := (gm_ite H).2 c2
      refine go_aloadn dX12_layWords_95 rfl ?_
      refine gm_getR fd_X12_44 dX12_layWords_96 H (fun x1 H => ?_)
      refine go_iload dX12_layWords_99 rfl ?_
      refine go_aloadn dX12_layWords_101 rfl ?_
      refine gm_getR fd_X12_44 dX12_layWords_102 H (fun x2 H => ?_)
      refine go_iload dX12_layWords_105 rfl ?_
      refine go_iconst (v := (1 : Int32)) dX12_layWords_107 rfl ?_
      refine go_isub dX12_layWords_108 ?_
      refine gm_iald dX12_layWords_109 H (fun x3 H => ?_)
      refine gm_iast dX12_layWords_110 H (fun hh1 H => ?_)
      refine go_iinc (v := (v5 + (-1 : Int32))) (loc2 := [some (aA v0), some (aI v1), some (aI v2), some (aI v3), some (aI v4), some (aI (v5 + (-1 : Int32)))]) dX12_layWords_111 rfl rfl (by decide) rfl ?_
      refine go_goto (tgt := 84) dX12_layWords_114 (by decide) ?_
      exact Hk (v5 + (-1 : Int32)) hh1 H
def l_X12_layWords_84 (v0 : Nat) (v1 : Int32) (v2 : Int32) (v3 : Int32) (v4 : Int32) (K117 : Hp → Option Hp) (v5 : Int32) (h : Hp) : Option Hp := loopK FUEL (fun (k : Int32 × Hp → Option Hp) (s : Int32 × Hp) => b_X12_layWords_84 v0 v1 v2 v3 v4 K117 (fun v5q hq => k (v5q, hq)) s.1 s.2) (v5, h)
theorem okl_X12_layWords_84 {r : Hp} (v0 : Nat) (v1 : Int32) (v2 : Int32) (v3 : Int32) (v4 : Int32) (K117 : Hp → Option Hp) (v5 : Int32) (h : Hp) (HK117 : ∀   (hq : Hp), K117 hq = some r → Go M_X12_layWords (none, r) 117 [some (aA v0), some (aI v1), some (aI v2), some (aI v3), some (aI v4), none] [] hq) (H : l_X12_layWords_84 v0 v1 v2 v3 v4 K117 v5 h = some r) : Go M_X12_layWords (none, r) 84 [some (aA v0), some (aI v1), some (aI v2), some (aI v3), some (aI v4), some (aI v5)] [] h := by
  unfold l_X12_layWords_84 at H
  exact go_loop (σ := Int32 × Hp) (body := (fun (k : Int32 × Hp → Option Hp) (s : Int32 × Hp) => b_X12_layWords_84 v0 v1 v2 v3 v4 K117 (fun v5q hq => k (v5q, hq)) s.1 s.2)) (fun s => [some (aA v0), some (aI v1), some (aI v2), some (aI v3), some (aI v4), some (aI s.1)]) (fun s => s.2) (fun k s Hk H => okb_X12_layWords_84 v0 v1 v2 v3 v4 K117 (fun v5q hq => k (v5q, hq)) s.1 s.2 HK117 (fun v5q hq H => Hk (v5q, hq) H) H) FUEL (v5, h) H
def j_X12_layWords_153 (v0 : Nat) (v1 : Int32) (s0 : Nat) (s1 : Int32) (s2 : Int32) (h : Hp) (k : Int32 → Hp → Option Hp) : Option Hp :=
  (pfI h s0 12 25 (s1 + s2)).bind fun hh1 => k (v1 + (1 : Int32)) hh1
set_option maxRecDepth 20000 in
theorem okj_X12_layWords_153 {r : Hp} (v0 : Nat) (v1 : Int32) (s0 : Nat) (s1 : Int32) (s2 : Int32) (h : Hp) (k : Int32 → Hp → Option Hp) (Hk : ∀ (v1q : Int32) (hq : Hp), k v1q hq = some r → Go M_X12_layWords (none, r) 7 [some (aA v0), some (aI v1q), none, none, none, none] [] hq) (H : j_X12_layWords_153 v0 v1 s0 s1 s2 h k = some r) : Go M_X12_layWords (none, r) 153 [some (aA v0), some (aI v1), none, none, none, none] [aI s2, aI s1, aA s0] h := by
  unfold j_X12_layWords_153 at H
  refine go_iadd dX12_layWords_153 ?_
  refine gm_putI fd_X12_337 (Or.inl rfl) dX12_layWords_154 H (fun hh1 H => ?_)
  refine go_iinc (v := (v1 + (1 : Int32))) (loc2 := [some (aA v0), some (aI (v1 + (1 : Int32))), none, none, none, none]) dX12_layWords_157 rfl rfl (by decide) rfl ?_
  refine go_goto (tgt := 7) dX12_layWords_160 (by decide) ?_
  exact Hk (v1 + (1 : Int32)) hh1 H
def j_X12_layWords_137 (v0 : Nat) (v1 : Int32) (v4 : Int32) (s0 : Nat) (s1 : Int32) (s2 : Int32) (h : Hp) (k : Int32 → Hp → Option Hp) : Option Hp :=
  (asI h s0 s1 s2).bind fun hh1 => (gfI hh1 v0 12 25).bind fun x1 => j_X12_layWords_153 v0 v1 v0 x1 (if v4 = 0 then (1 : Int32) else (0 : Int32)) hh1 k
set_option maxRecDepth 20000 in
theorem okj_X12_layWords_137 {r : Hp} (v0 : Nat) (v1 : Int32) (v4 : Int32) (s0 : Nat) (s1 : Int32) (s2 : Int32) (h : Hp) (k : Int32 → Hp → Option Hp) (Hk : ∀ (v1q : Int32) (hq : Hp), k v1q hq = some r → Go M_X12_layWords (none, r) 7 [some (aA v0), some (aI v1q), none, none, none, none] [] hq) (H : j_X12_layWords_137 v0 v1 v4 s0 s1 s2 h k = some r) : Go M_X12_layWords (none, r) 137 [some (aA v0), some (aI v1), none, none, some (aI v4), none] [aI s2, aI s1, aA s0] h := by
  unfold j_X12_layWords_137 at H
  refine gm_iast dX12_layWords_137 H (fun hh1 H => ?_)
  refine go_aloadn dX12_layWords_138 rfl ?_
  refine go_dupA dX12_layWords_139 ?_
  refine gm_getI fd_X12_337 dX12_layWords_140 H (fun x1 H => ?_)
  refine go_iload dX12_layWords_143 rfl ?_
  refine go_if_eq (tgt := 152) dX12_layWords_145 (by decide) (fun c1 => ?_) (fun c1 => ?_)
  · rw [if_pos c1] at H
    refine go_iconst (v := (1 : Int32)) dX12_layWords_152 rfl ?_
    refine go_mask [true, true, false, false, false, false] (loc' := [some (aA v0), some (aI v1), none, none, none, none]) rfl ?_
    exact okj_X12_layWords_153 v0 v1 v0 x1 (1 : Int32) hh1 k Hk H
  · rw [if_neg c1] at H
    refine go_iconst (v := (0 : Int32)) dX12_layWords_148 rfl ?_
    refine go_goto (tgt := 153) dX12_layWords_149 (by decide) ?_
    refine go_mask [true, true, false, false, false, false] (loc' := [some (aA v0), some (aI v1), none, none, none, none]) rfl ?_
    exact okj_X12_layWords_153 v0 v1 v0 x1 (0 : Int32) hh1 k Hk H
def j_X12_layWords_117 (v0 : Nat) (v1 : Int32) (v2 : Int32) (v3 : Int32) (v4 : Int32)  (h : Hp) (k : Int32 → Hp → Option Hp) : Option Hp :=
  (gfR h v0 12 26).bind fun x1 => if v4 = 0 then j_X12_layWords_137 v0 v1 v4 x1 v3 v2 h k else (gfR h v0 12 26).bind fun x2 => (alI h x2 v3).bind fun x3 => j_X12_layWords_137 v0 v1 v4 x1 v3 x3 h k
set_option maxRecDepth 20000 in
theorem okj_X12_layWords_117 {r : Hp} (v0 : Nat) (v1 : Int32) (v2 : Int32) (v3 : Int32) (v4 : Int32)  (h : Hp) (k : Int32 → Hp → Option Hp) (Hk : ∀ (v1q : Int32) (hq : Hp), k v1q hq = some r → Go M_X12_layWords (none, r) 7 [some (aA v0), some (aI v1q), none, none, none, none] [] hq) (H : j_X12_layWords_117 v0 v1 v2 v3 v4 h k = some r) : Go M_X12_layWords (none, r) 117 [some (aA v0), some (aI v1), some (aI v2), some (aI v3), some (aI v4), none] [] h := by
  unfold j_X12_layWords_117 at H
  refine go_aloadn dX12_layWords_117 rfl ?_
  refine gm_getR fd_X12_44 dX12_layWords_118 H (fun x1 H => ?_)
  refine go_iloadn dX12_layWords_121 rfl ?_
  refine go_iload dX12_layWords_122 rfl ?_
  refine go_if_eq (tgt := 136) dX12_layWords_124 (by decide) (fun c1 => ?_) (fun c1 => ?_)
  · replace H := (gm_ite H).1 c1
    refine go_iloadn dX12_layWords_136 rfl ?_
    refine go_mask [true, true, false, false, true, false] (loc' := [some (aA v0), some (aI v1), none, none, some (aI v4), none]) rfl ?_
    exact okj_X12_layWords_137 v0 v1 v4 x1 v3 v2 h k Hk H
  · replace H := (gm_ite H).2 c1
    refine go_aloadn dX12_layWords_127 rfl ?_
    refine gm_getR fd_X12_44 dX12_layWords_128 H (fun x2 H => ?_)
    refine go_iloadn dX12_layWords_131 rfl ?_
    refine gm_iald dX12_layWords_132 H (fun x3 H => ?_)
    refine go_goto (tgt := 137) dX12_layWords_133 (by decide) ?_
    refine go_mask [true, true, false, false, true, false] (loc' := [some (aA v0), some (aI v1), none, none, some (aI v4), none]) rfl ?_
    exact okj_X12_layWords_137 v0 v1 v4 x1 v3 x3 h k Hk H
def j_X12_layWords_76 (v0 : Nat) (v1 : Int32) (v2 : Int32) (v3 : Int32) (s0 : Int32) (h : Hp) (k : Int32 → Hp → Option Hp) : Option Hp :=
  (gfI h v0 12 25).bind fun x1 => l_X12_layWords_84 v0 v1 v2 v3 s0 (fun hz2 => j_X12_layWords_117 v0 v1 v2 v3 s0 hz2 k) x1 h
set_option maxRecDepth 20000 in
theorem okj_X12_layWords_76 {r : Hp} (v0 : Nat) (v1 : Int32) (v2 : Int32) (v3 : Int32) (s0 : Int32) (h : Hp) (k : Int32 → Hp → Option Hp) (Hk : ∀ (v1q : Int32) (hq : Hp), k v1q hq = some r → Go M_X12_layWords (none, r) 7 [some (aA v0), some (aI v1q), none, none, none, none] [] hq) (H : j_X12_layWords_76 v0 v1 v2 v3 s0 h k = some r) : Go M_X12_layWords (none, r) 76 [some (aA v0), some (aI v1), some (aI v2), some (aI v3), none, none] [aI s0] h := by
  unfold j_X12_layWords_76 at H
  refine go_istore (loc2 := [some (aA v0), some (aI v1), some (aI v2), some (aI v3), some (aI s0), none]) dX12_layWords_76 (by decide) rfl ?_
  refine go_aloadn dX12_layWords_78 rfl ?_
  refine gm_getI fd_X12_337 dX12_layWords_79 H (fun x1 H => ?_)
  refine go_istore (loc2 := [some (aA v0), some (aI v1), some (aI v2), some (aI v3), some (aI s0), some (aI x1)]) dX12_layWords_82 (by decide) rfl ?_
  refine okl_X12_layWords_84 v0 v1 v2 v3 s0 (fun hz2 => j_X12_layWords_117 v0 v1 v2 v3 s0 hz2 k) x1 h ?_ H
  · intro hz2 H
    exact okj_X12_layWords_117 v0 v1 v2 v3 s0 hz2 k Hk H
def j_X12_layWords_53 (v0 : Nat) (v1 : Int32) (v2 : Int32) (v3 : Int32)  (h : Hp) (k : Int32 → Hp → Option Hp) : Option Hp :=
  (gfI h v0 12 25).bind fun x1 => if x1 ≤ v3 then j_X12_layWords_76 v0 v1 v2 v3 (0 : Int32) h k else (gfR h v0 12 26).bind fun x2 => (alI h x2 v3).bind fun x3 => j_X12_layWords_76 v0 v1 v2 v3 (if ¬ x3 = v2 then (0 : Int32) else (1 : Int32)) h k
set_option maxRecDepth 20000 in
theorem okj_X12_layWords_53 {r : Hp} (v0 : Nat) (v1 : Int32) (v2 : Int32) (v3 : Int32)  (h : Hp) (k : Int32 → Hp → Option Hp) (Hk : ∀ (v1q : Int32) (hq : Hp), k v1q hq = some r → Go M_X12_layWords (none, r) 7 [some (aA v0), some (aI v1q), none, none, none, none] [] hq) (H : j_X12_layWords_53 v0 v1 v2 v3 h k = some r) : Go M_X12_layWords (none, r) 53 [some (aA v0), some (aI v1), some (aI v2), some (aI v3), none, none] [] h := by
  unfold j_X12_layWords_53 at H
  refine go_iloadn dX12_layWords_53 rfl ?_
  refine go_aloadn dX12_layWords_54 rfl ?_
  refine gm_getI fd_X12_337 dX12_layWords_55 H (fun x1 H => ?_)
  refine go_icmp_ge (tgt := 75) dX12_layWords_58 (by decide) (fun c1 => ?_) (fun c1 => ?_)
  · replace H := (gm_ite H).1 c1
    refine go_iconst (v := (0 : Int32)) dX12_layWords_75 rfl ?_
    exact okj_X12_layWords_76 v0 v1 v2 v3 (0 : Int32) h k Hk H
  · replace H := (gm_ite H).2 c1
    refine go_aloadn dX12_layWords_61 rfl ?_
    refine gm_getR fd_X12_44 dX12_layWords_62 H (fun x2 H => ?_)
    refine go_iloadn dX12_layWords_65 rfl ?_
    refine gm_iald dX12_layWords_66 H (fun x3 H => ?_)
    refine go_iloadn dX12_layWords_67 rfl ?_
    refine go_icmp_ne (tgt := 75) dX12_layWords_68 (by decide) (fun c2 => ?_) (fun c2 => ?_)
    · rw [if_pos c2] at H
      refine go_iconst (v := (0 : Int32)) dX12_layWords_75 rfl ?_
      exact okj_X12_layWords_76 v0 v1 v2 v3 (0 : Int32) h k Hk H
    · rw [if_neg c2] at H
      refine go_iconst (v := (1 : Int32)) dX12_layWords_71 rfl ?_
      refine go_goto (tgt := 76) dX12_layWords_72 (by decide) ?_
      exact okj_X12_layWords_76 v0 v1 v2 v3 (1 : Int32) h k Hk H
def b_X12_layWords_7 (v0 : Nat) (k : Int32 → Hp → Option Hp) (v1 : Int32) (h : Hp) : Option Hp :=
  (gfI h v0 12 24).bind fun x1 => if x1 ≤ v1 then (some h) else (rc h v0 12 (m_X12_wordOf v0 v1 h)).bind fun x2 => l_X12_layWords_23 v0 v1 x2 h (fun a3_3 => j_X12_layWords_53 v0 v1 x2 a3_3 h k) (0 : Int32)
set_option maxRecDepth 20000 in
theorem okb_X12_layWords_7 {r : Hp} (v0 : Nat) (k : Int32 → Hp → Option Hp) (v1 : Int32) (h : Hp) (Hk : ∀ (v1q : Int32) (hq : Hp), k v1q hq = some r → Go M_X12_layWords (none, r) 7 [some (aA v0), some (aI v1q), none, none, none, none] [] hq) (H : b_X12_layWords_7 v0 k v1 h = some r) : Go M_X12_layWords (none, r) 7 [some (aA v0), some (aI v1), none, none, none, none] [] h := by
  unfold b_X12_layWords_7 at H
  refine go_iloadn dX12_layWords_7 rfl ?_
  refine go_aloadn dX12_layWords_8 rfl ?_
  refine gm_getI fd_X12_253 dX12_layWords_9 H (fun x1 H => ?_)
  refine go_icmp_ge (tgt := 163) dX12_layWords_12 (by decide) (fun c1 => ?_) (fun c1 => ?_)
  · replace H := (gm_ite H).1 c1
    obtain rfl := Option.some.inj H
    exact go_return dX12_layWords_163 rfl
  · replace H := (gm_ite H).2 c1
    refine go_aloadn dX12_layWords_15 rfl ?_
    refine go_iloadn dX12_layWords_16 rfl ?_
    obtain ⟨c2, x2, ex2, H⟩ := gm_rc H
    refine go_callV (vs := [aI v1]) (stk := []) (o1 := (some (aI x2), h)) mk_X12_wordOf sv_X12_layWords_266 cl_X12 rfl dX12_layWords_17 c2 rfl rfl (Nat.le_of_ble_eq_true rfl) (Nat.le_of_ble_eq_true rfl) (ok_X12_wordOf ex2) (show Go M_X12_layWords (none, r) 20 [some (aA v0), some (aI v1), none, none, none, none] [aI x2] h from ?_)
    refine go_istoren (loc2 := [some (aA v0), some (aI v1), some (aI x2), none, none, none]) dX12_layWords_20 rfl (by decide) rfl ?_
    refine go_iconst (v := (0 : Int32)) dX12_layWords_21 rfl ?_
    refine go_istoren (loc2 := [some (aA v0), some (aI v1), some (aI x2), some (aI (0 : Int32)), none, none]) dX12_layWords_22 rfl (by decide) rfl ?_
    refine okl_X12_layWords_23 v0 v1 x2 h (fun a3_3 => j_X12_layWords_53 v0 v1 x2 a3_3 h k) (0 : Int32) ?_ H
    · intro a3_3 H
      exact okj_X12_layWords_53 v0 v1 x2 a3_3 h k Hk H
def l_X12_layWords_7 (v0 : Nat) (v1 : Int32) (h : Hp) : Option Hp := loopK FUEL (fun (k : Int32 × Hp → Option Hp) (s : Int32 × Hp) => b_X12_layWords_7 v0 (fun v1q hq => k (v1q, hq)) s.1 s.2) (v1, h)
theorem okl_X12_layWords_7 {r : Hp} (v0 : Nat) (v1 : Int32) (h : Hp) (H : l_X12_layWords_7 v0 v1 h = some r) : Go M_X12_layWords (none, r) 7 [some (aA v0), some (aI v1), none, none, none, none] [] h := by
  unfold l_X12_layWords_7 at H
  exact go_loop (σ := Int32 × Hp) (body := (fun (k : Int32 × Hp → Option Hp) (s : Int32 × Hp) => b_X12_layWords_7 v0 (fun v1q hq => k (v1q, hq)) s.1 s.2)) (fun s => [some (aA v0), some (aI s.1), none, none, none, none]) (fun s => s.2) (fun k s Hk H => okb_X12_layWords_7 v0 (fun v1q hq => k (v1q, hq)) s.1 s.2  (fun v1q hq H => Hk (v1q, hq) H) H) FUEL (v1, h) H
def m_X12_layWords (v0 : Nat) (h : Hp) : Option Hp :=
  (pfI h v0 12 25 (0 : Int32)).bind fun hh1 => l_X12_layWords_7 v0 (0 : Int32) hh1
set_option maxRecDepth 20000 in
theorem ok_X12_layWords {r : Hp} {v0 : Nat} {h : Hp} (H : m_X12_layWords v0 h = some r) : Ev M_X12_layWords [aA v0] h (none, r) := by
  show Go M_X12_layWords (none, r) 0 [some (aA v0), none, none, none, none, none] [] h
  unfold m_X12_layWords at H
  refine go_aloadn dX12_layWords_0 rfl ?_
  refine go_iconst (v := (0 : Int32)) dX12_layWords_1 rfl ?_
  refine gm_putI fd_X12_337 (Or.inl rfl) dX12_layWords_2 H (fun hh1 H => ?_)
  refine go_iconst (v := (0 : Int32)) dX12_layWords_5 rfl ?_
  refine go_istoren (loc2 := [some (aA v0), some (aI (0 : Int32)), none, none, none, none]) dX12_layWords_6 rfl (by decide) rfl ?_
  exact okl_X12_layWords_7 v0 (0 : Int32) hh1 H
/-! X12_archive -/
def m_X12_archive (v0 : Nat) (v1 : Int32) (v2 : Int32) (h : Hp) : Option (Int32 × Hp) :=
  (pfI h v0 12 0 (0 : Int32)).bind fun hh1 => (rc hh1 v0 12 (m_X12_hand v0 v1 hh1)).bind fun x1 => if ¬ x1.1 = 0 then (if v2 < (10 : Int32) then (if v2 = (0 : Int32) then ((gfR x1.2 v0 12 18).bind fun x2 => (alI x1.2 x2 (0 : Int32)).bind fun x3 => some (x3, x1.2)) else if v2 = (1 : Int32) then ((rc x1.2 v0 12 (m_X12_versionsAll v0 x1.2)).bind fun x4 => some (x4, x1.2)) else if v2 = (2 : Int32) then ((rc x1.2 v0 12 (m_X12_sizeAll v0 x1.2)).bind fun x5 => some (x5, x1.2)) else if v2 = (3 : Int32) then ((gfI x1.2 v0 12 24).bind fun x6 => some (x6, x1.2)) else if v2 = (4 : Int32) then ((rc x1.2 v0 12 (m_X12_postings v0 x1.2)).bind fun x7 => some (x7, x1.2)) else if v2 = (5 : Int32) then ((rc x1.2 v0 12 (m_X12_longest v0 x1.2)).bind fun x8 => some (x8, x1.2)) else if v2 = (6 : Int32) then ((rc x1.2 v0 12 (m_X12_twins v0 x1.2)).bind fun x9 => some (x9, x1.2)) else if v2 = (7 : Int32) then ((rc x1.2 v0 12 (m_X12_layWords v0 x1.2)).bind fun x10 => (gfI x10 v0 12 25).bind fun x11 => some (x11, x10)) else some ((-2 : Int32), x1.2)) else (rc x1.2 v0 12 (m_X12_ofDoc v0 (iremF v2 (10 : Int32)) (v2 / (10 : Int32)) x1.2)).bind fun x12 => some (x12, x1.2)) else some ((-2 : Int32), x1.2)
set_option maxRecDepth 20000 in
theorem ok_X12_archive {r : (Int32 × Hp)} {v0 : Nat} {v1 : Int32} {v2 : Int32} {h : Hp} (H : m_X12_archive v0 v1 v2 h = some r) : Ev M_X12_archive [aA v0, aI v1, aI v2] h (some (aI r.1), r.2) := by
  show Go M_X12_archive (some (aI r.1), r.2) 0 [some (aA v0), some (aI v1), some (aI v2)] [] h
  unfold m_X12_archive at H
  refine go_aloadn dX12_archive_0 rfl ?_
  refine go_iconst (v := (0 : Int32)) dX12_archive_1 rfl ?_
  refine gm_putI fd_X12_60 (Or.inl rfl) dX12_archive_2 H (fun hh1 H => ?_)
  refine go_aloadn dX12_archive_5 rfl ?_
  refine go_iloadn dX12_archive_6 rfl ?_
  obtain ⟨c1, x1, ex1, H⟩ := gm_rc H
  refine go_callV (vs := [aI v1]) (stk := []) (o1 := (some (aI x1.1), x1.2)) mk_X12_hand sv_X12_archive_313 cl_X12 rfl dX12_archive_7 c1 rfl rfl (Nat.le_of_ble_eq_true rfl) (Nat.le_of_ble_eq_true rfl) (ok_X12_hand ex1) (show Go M_X12_archive (some (aI r.1), r.2) 10 [some (aA v0), some (aI v1), some (aI v2)] [aI x1.1] x1.2 from ?_)
  refine go_if_ne (tgt := 16) dX12_archive_10 (by decide) (fun c2 => ?_) (fun c2 => ?_)
  · replace H := (gm_ite H).1 c2
    refine go_iloadn dX12_archive_16 rfl ?_
    refine go_bipush (v := (10 : Int32)) dX12_archive_17 rfl ?_
    refine go_icmp_lt (tgt := 35) dX12_archive_19 (by decide) (fun c3 => ?_) (fun c3 => ?_)
    · replace H := (gm_ite H).1 c3
      refine go_iloadn dX12_archive_35 rfl ?_
      by_cases c4 : v2 = (0 : Int32)
      · replace H := (gm_ite H).1 c4
        refine go_eqI c4 ?_
        refine go_tableIn (tgt := 84) dX12_archive_36 (by decide) (by decide) rfl (by decide) ?_
        refine go_aloadn dX12_archive_84 rfl ?_
        refine gm_getR fd_X12_35 dX12_archive_85 H (fun x2 H => ?_)
        refine go_iconst (v := (0 : Int32)) dX12_archive_88 rfl ?_
        refine gm_iald dX12_archive_89 H (fun x3 H => ?_)
        obtain rfl := Option.some.inj H
        exact go_ireturn dX12_archive_90 (tyI_int rfl)
      · replace H := (gm_ite H).2 c4
        by_cases c5 : v2 = (1 : Int32)
        · replace H := (gm_ite H).1 c5
          refine go_eqI c5 ?_
          refine go_tableIn (tgt := 91) dX12_archive_36 (by decide) (by decide) rfl (by decide) ?_
          refine go_aloadn dX12_archive_91 rfl ?_
          obtain ⟨c6, x4, ex4, H⟩ := gm_rc H
          refine go_callV (vs := []) (stk := []) (o1 := (some (aI x4), x1.2)) mk_X12_versionsAll sv_X12_archive_319 cl_X12 rfl dX12_archive_92 c6 rfl rfl (Nat.le_of_ble_eq_true rfl) (Nat.le_of_ble_eq_true rfl) (ok_X12_versionsAll ex4) (show Go M_X12_archive (some (aI r.1), r.2) 95 [some (aA v0), some (aI v1), some (aI v2)] [aI x4] x1.2 from ?_)
          obtain rfl := Option.some.inj H
          exact go_ireturn dX12_archive_95 (tyI_int rfl)
        · replace H := (gm_ite H).2 c5
          by_cases c7 : v2 = (2 : Int32)
          · replace H := (gm_ite H).1 c7
            refine go_eqI c7 ?_
            refine go_tableIn (tgt := 96) dX12_archive_36 (by decide) (by decide) rfl (by decide) ?_
            refine go_aloadn dX12_archive_96 rfl ?_
            obtain ⟨c8, x5, ex5, H⟩ := gm_rc H
            refine go_callV (vs := []) (stk := []) (o1 := (some (aI x5), x1.2)) mk_X12_sizeAll sv_X12_archive_322 cl_X12 rfl dX12_archive_97 c8 rfl rfl (Nat.le_of_ble_eq_true rfl) (Nat.le_of_ble_eq_true rfl) (ok_X12_sizeAll ex5) (show Go M_X12_archive (some (aI r.1), r.2) 100 [some (aA v0), some (aI v1), some (aI v2)] [aI x5] x1.2 from ?_)
            obtain rfl := Option.some.inj H
            exact go_ireturn dX12_archive_100 (tyI_int rfl)
          · replace H := (gm_ite H).2 c7
            by_cases c9 : v2 = (3 : Int32)
            · replace H := (gm_ite H).1 c9
              refine go_eqI c9 ?_
              refine go_tableIn (tgt := 101) dX12_archive_36 (by decide) (by decide) rfl (by decide) ?_
              refine go_aloadn dX12_archive_101 rfl ?_
              refine gm_getI fd_X12_253 dX12_archive_102 H (fun x6 H => ?_)
              obtain rfl := Option.some.inj H
              exact go_ireturn dX12_archive_105 (tyI_int rfl)
            · replace H := (gm_ite H).2 c9
              by_cases c10 : v2 = (4 : Int32)
              · replace H := (gm_ite H).1 c10
                refine go_eqI c10 ?_
                refine go_tableIn (tgt := 106) dX12_archive_36 (by decide) (by decide) rfl (by decide) ?_
                refine go_aloadn dX12_archive_106 rfl ?_
                obtain ⟨c11, x7, ex7, H⟩ := gm_rc H
                refine go_callV (vs := []) (stk := []) (o1 := (some (aI x7), x1.2)) mk_X12_postings sv_X12_archive_325 cl_X12 rfl dX12_archive_107 c11 rfl rfl (Nat.le_of_ble_eq_true rfl) (Nat.le_of_ble_eq_true rfl) (ok_X12_postings ex7) (show Go M_X12_archive (some (aI r.1), r.2) 110 [some (aA v0), some (aI v1), some (aI v2)] [aI x7] x1.2 from ?_)
                obtain rfl := Option.some.inj H
                exact go_ireturn dX12_archive_110 (tyI_int rfl)
              · replace H := (gm_ite H).2 c10
                by_cases c12 : v2 = (5 : Int32)
                · replace H := (gm_ite H).1 c12
                  refine go_eqI c12 ?_
                  refine go_tableIn (tgt := 111) dX12_archive_36 (by decide) (by decide) rfl (by decide) ?_
                  refine go_aloadn dX12_archive_111 rfl ?_
                  obtain ⟨c13, x8, ex8, H⟩ := gm_rc H
                  refine go_callV (vs := []) (stk := []) (o1 := (some (aI x8), x1.2)) mk_X12_longest sv_X12_archive_328 cl_X12 rfl dX12_archive_112 c13 rfl rfl (Nat.le_of_ble_eq_true rfl) (Nat.le_of_ble_eq_true rfl) (ok_X12_longest ex8) (show Go M_X12_archive (some (aI r.1), r.2) 115 [some (aA v0), some (aI v1), some (aI v2)] [aI x8] x1.2 from ?_)
                  obtain rfl := Option.some.inj H
                  exact go_ireturn dX12_archive_115 (tyI_int rfl)
                · replace H := (gm_ite H).2 c12
                  by_cases c14 : v2 = (6 : Int32)
                  · replace H := (gm_ite H).1 c14
                    refine go_eqI c14 ?_
                    refine go_tableIn (tgt := 116) dX12_archive_36 (by decide) (by decide) rfl (by decide) ?_
                    refine go_aloadn dX12_archive_116 rfl ?_
                    obtain ⟨c15, x9, ex9, H⟩ := gm_rc H
                    refine go_callV (vs := []) (stk := []) (o1 := (some (aI x9), x1.2)) mk_X12_twins sv_X12_archive_331 cl_X12 rfl dX12_archive_117 c15 rfl rfl (Nat.le_of_ble_eq_true rfl) (Nat.le_of_ble_eq_true rfl) (ok_X12_twins ex9) (show Go M_X12_archive (some (aI r.1), r.2) 120 [some (aA v0), some (aI v1), some (aI v2)] [aI x9] x1.2 from ?_)
                    obtain rfl := Option.some.inj H
                    exact go_ireturn dX12_archive_120 (tyI_int rfl)
                  · replace H := (gm_ite H).2 c14
                    by_cases c16 : v2 = (7 : Int32)
                    · replace H := (gm_ite H).1 c16
                      refine go_eqI c16 ?_
                      refine go_tableIn (tgt := 121) dX12_archive_36 (by decide) (by decide) rfl (by decide) ?_
                      refine go_aloadn dX12_archive_121 rfl ?_
                      obtain ⟨c17, x10, ex10, H⟩ := gm_rc H
                      refine go_callV (vs := []) (stk := []) (o1 := (none, x10)) mk_X12_layWords sv_X12_archive_334 cl_X12 rfl dX12_archive_122 c17 rfl rfl (Nat.le_of_ble_eq_true rfl) (Nat.le_of_ble_eq_true rfl) (ok_X12_layWords ex10) (show Go M_X12_archive (some (aI r.1), r.2) 125 [some (aA v0), some (aI v1), some (aI v2)] [] x10 from ?_)
                      refine go_aloadn dX12_archive_125 rfl ?_
                      refine gm_getI fd_X12_337 dX12_archive_126 H (fun x11 H => ?_)
                      obtain rfl := Option.some.inj H
                      exact go_ireturn dX12_archive_129 (tyI_int rfl)
                    · replace H := (gm_ite H).2 c16
                      refine go_tableOut (tgt := 130) dX12_archive_36 (sw_out (fun i h1 h2 e => ?_)) (by decide) ?_
                      · have h3 : i = 0 ∨ i = 1 ∨ i = 2 ∨ i = 3 ∨ i = 4 ∨ i = 5 ∨ i = 6 ∨ i = 7 := by omega
                        rcases h3 with rfl | rfl | rfl | rfl | rfl | rfl | rfl | rfl
                        · exact sw_ne c4 (by decide) e
                        · exact sw_ne c5 (by decide) e
                        · exact sw_ne c7 (by decide) e
                        · exact sw_ne c9 (by decide) e
                        · exact sw_ne c10 (by decide) e
                        · exact sw_ne c12 (by decide) e
                        · exact sw_ne c14 (by decide) e
                        · exact sw_ne c16 (by decide) e
                      · skip
                        refine go_bipush (v := (-2 : Int32)) dX12_archive_130 rfl ?_
                        obtain rfl := Option.some.inj H
                        exact go_ireturn dX12_archive_132 (tyI_int rfl)
    · replace H := (gm_ite H).2 c3
      refine go_aloadn dX12_archive_22 rfl ?_
      refine go_iloadn dX12_archive_23 rfl ?_
      refine go_bipush (v := (10 : Int32)) dX12_archive_24 rfl ?_
      refine go_irem dX12_archive_26 (by decide) ?_
      refine go_iloadn dX12_archive_27 rfl ?_
      refine go_bipush (v := (10 : Int32)) dX12_archive_28 rfl ?_
      refine go_idiv dX12_archive_30 (by decide) ?_
      obtain ⟨c18, x12, ex12, H⟩ := gm_rc H
      refine go_callV (vs := [aI (iremF v2 (10 : Int32)), aI (v2 / (10 : Int32))]) (stk := []) (o1 := (some (aI x12), x1.2)) mk_X12_ofDoc sv_X12_archive_316 cl_X12 rfl dX12_archive_31 c18 rfl rfl (Nat.le_of_ble_eq_true rfl) (Nat.le_of_ble_eq_true rfl) (ok_X12_ofDoc ex12) (show Go M_X12_archive (some (aI r.1), r.2) 34 [some (aA v0), some (aI v1), some (aI v2)] [aI x12] x1.2 from ?_)
      obtain rfl := Option.some.inj H
      exact go_ireturn dX12_archive_34 (tyI_int rfl)
  · replace H := (gm_ite H).2 c2
    refine go_bipush (v := (-2 : Int32)) dX12_archive_13 rfl ?_
    obtain rfl := Option.some.inj H
    exact go_ireturn dX12_archive_15 (tyI_int rfl)
/-! X0_dateOf -/
def m_X0_dateOf (v0 : Nat) (v1 : Int32) (v2 : Int32) (h : Hp) : Option Int32 :=
  (gfR h v0 1 4).bind fun x1 => (m_X0_slotOf v1 v2 h).bind fun x2 => (m_X5_at x1 x2 h).bind fun x3 => some x3
set_option maxRecDepth 20000 in
theorem ok_X0_dateOf {r : Int32} {v0 : Nat} {v1 : Int32} {v2 : Int32} {h : Hp} (H : m_X0_dateOf v0 v1 v2 h = some r) : Ev M_X0_dateOf [aA v0, aI v1, aI v2] h (some (aI r), h) := by
  show Go M_X0_dateOf (some (aI r), h) 0 [some (aA v0), some (aI v1), some (aI v2)] [] h
  unfold m_X0_dateOf at H
  refine go_aloadn dX0_dateOf_0 rfl ?_
  refine gm_getR fd_X0_25 dX0_dateOf_1 H (fun x1 H => ?_)
  refine go_iloadn dX0_dateOf_4 rfl ?_
  refine go_iloadn dX0_dateOf_5 rfl ?_
  obtain ⟨x2, ex2, H⟩ := bind_some H
  refine go_callS (vs := [aI v1, aI v2]) (stk := [aA x1]) (o1 := (some (aI x2), h)) mk_X0_slotOf ss_X0_dateOf_91 dX0_dateOf_6 rfl rfl (Nat.le_of_ble_eq_true rfl) (Nat.le_of_ble_eq_true rfl) (ok_X0_slotOf ex2) (show Go M_X0_dateOf (some (aI r), h) 9 [some (aA v0), some (aI v1), some (aI v2)] [aI x2, aA x1] h from ?_)
  obtain ⟨x3, ex3, H⟩ := bind_some H
  refine go_callS (vs := [aA x1, aI x2]) (stk := []) (o1 := (some (aI x3), h)) mk_X5_at ss_X0_dateOf_87 dX0_dateOf_9 rfl rfl (Nat.le_of_ble_eq_true rfl) (Nat.le_of_ble_eq_true rfl) (ok_X5_at ex3) (show Go M_X0_dateOf (some (aI r), h) 12 [some (aA v0), some (aI v1), some (aI v2)] [aI x3] h from ?_)
  obtain rfl := Option.some.inj H
  exact go_ireturn dX0_dateOf_12 (tyI_int rfl)
/-! X2_fresh -/
def j_X2_fresh_47 (v1 : Nat) (v2 : Int32) (v3 : Int32) (v5 : Int32) (s0 : Int32) (s1 : Int32) (h : Hp) (k : Int32 → Int32 → Option Int32) : Option Int32 :=
  k (s0 + s1) (v5 + (1 : Int32))
set_option maxRecDepth 20000 in
theorem okj_X2_fresh_47 {r : Int32} (v1 : Nat) (v2 : Int32) (v3 : Int32) (v5 : Int32) (s0 : Int32) (s1 : Int32) (h : Hp) (k : Int32 → Int32 → Option Int32) (Hk : ∀ (v4q : Int32) (v5q : Int32), k v4q v5q = some r → Go M_X2_fresh (some (aI r), h) 6 [none, some (aA v1), some (aI v2), some (aI v3), some (aI v4q), some (aI v5q), none] [] h) (H : j_X2_fresh_47 v1 v2 v3 v5 s0 s1 h k = some r) : Go M_X2_fresh (some (aI r), h) 47 [none, some (aA v1), some (aI v2), some (aI v3), none, some (aI v5), none] [aI s1, aI s0] h := by
  unfold j_X2_fresh_47 at H
  refine go_iadd dX2_fresh_47 ?_
  refine go_istore (loc2 := [none, some (aA v1), some (aI v2), some (aI v3), some (aI (s0 + s1)), some (aI v5), none]) dX2_fresh_48 (by decide) rfl ?_
  refine go_iinc (v := (v5 + (1 : Int32))) (loc2 := [none, some (aA v1), some (aI v2), some (aI v3), some (aI (s0 + s1)), some (aI (v5 + (1 : Int32))), none]) dX2_fresh_50 rfl rfl (by decide) rfl ?_
  refine go_goto (tgt := 6) dX2_fresh_53 (by decide) ?_
  exact Hk (s0 + s1) (v5 + (1 : Int32)) H
def b_X2_fresh_6 (v1 : Nat) (v2 : Int32) (v3 : Int32) (h : Hp) (k : Int32 → Int32 → Option Int32) (v4 : Int32) (v5 : Int32) : Option Int32 :=
  (rc h v1 1 (m_X0_lengthOf v1 v2 v3 h)).bind fun x1 => if x1 ≤ v5 then (some v4) else (rc h v1 1 (m_X0_tokenAt v1 v2 v3 v5 h)).bind fun x2 => (rc h v1 1 (m_X0_stayOf v1 x2 h)).bind fun x3 => (m_X5_firstBit x3 h).bind fun x4 => j_X2_fresh_47 v1 v2 v3 v5 v4 (if ¬ x4 = v3 then (0 : Int32) else (1 : Int32)) h k
set_option maxRecDepth 20000 in
theorem okb_X2_fresh_6 {r : Int32} (v1 : Nat) (v2 : Int32) (v3 : Int32) (h : Hp) (k : Int32 → Int32 → Option Int32) (v4 : Int32) (v5 : Int32) (Hk : ∀ (v4q : Int32) (v5q : Int32), k v4q v5q = some r → Go M_X2_fresh (some (aI r), h) 6 [none, some (aA v1), some (aI v2), some (aI v3), some (aI v4q), some (aI v5q), none] [] h) (H : b_X2_fresh_6 v1 v2 v3 h k v4 v5 = some r) : Go M_X2_fresh (some (aI r), h) 6 [none, some (aA v1), some (aI v2), some (aI v3), some (aI v4), some (aI v5), none] [] h := by
  unfold b_X2_fresh_6 at H
  refine go_iload dX2_fresh_6 rfl ?_
  refine go_aloadn dX2_fresh_8 rfl ?_
  refine go_iloadn dX2_fresh_9 rfl ?_
  refine go_iloadn dX2_fresh_10 rfl ?_
  obtain ⟨c1, x1, ex1, H⟩ := gm_rc H
  refine go_callV (vs := [aI v2, aI v3]) (stk := [aI v5]) (o1 := (some (aI x1), h)) mk_X0_lengthOf sv_X2_fresh_25 cl_X0 rfl dX2_fresh_11 c1 rfl rfl (Nat.le_of_ble_eq_true rfl) (Nat.le_of_ble_eq_true rfl) (ok_X0_lengthOf ex1) (show Go M_X2_fresh (some (aI r), h) 14 [none, some (aA v1), some (aI v2), some (aI v3), some (aI v4), some (aI v5), none] [aI x1, aI v5] h from ?_)
  refine go_icmp_ge (tgt := 56) dX2_fresh_14 (by decide) (fun c2 => ?_) (fun c2 => ?_)
  · replace H := (gm_ite H).1 c2
    refine go_iload dX2_fresh_56 rfl ?_
    obtain rfl := Option.some.inj H
    exact go_ireturn dX2_fresh_58 (tyI_int rfl)
  · replace H := (gm_ite H).2 c2
    refine go_aloadn dX2_fresh_17 rfl ?_
    refine go_aloadn dX2_fresh_18 rfl ?_
    refine go_iloadn dX2_fresh_19 rfl ?_
    refine go_iloadn dX2_fresh_20 rfl ?_
    refine go_iload dX2_fresh_21 rfl ?_
    obtain ⟨c3, x2, ex2, H⟩ := gm_rc H
    refine go_callV (vs := [aI v2, aI v3, aI v5]) (stk := [aA v1]) (o1 := (some (aI x2), h)) mk_X0_tokenAt sv_X2_fresh_55 cl_X0 rfl dX2_fresh_23 c3 rfl rfl (Nat.le_of_ble_eq_true rfl) (Nat.le_of_ble_eq_true rfl) (ok_X0_tokenAt ex2) (show Go M_X2_fresh (some (aI r), h) 26 [none, some (aA v1), some (aI v2), some (aI v3), some (aI v4), some (aI v5), none] [aI x2, aA v1] h from ?_)
    obtain ⟨c4, x3, ex3, H⟩ := gm_rc H
    refine go_callV (vs := [aI x2]) (stk := []) (o1 := (some (aI x3), h)) mk_X0_stayOf sv_X2_fresh_32 cl_X0 rfl dX2_fresh_26 c4 rfl rfl (Nat.le_of_ble_eq_true rfl) (Nat.le_of_ble_eq_true rfl) (ok_X0_stayOf ex3) (show Go M_X2_fresh (some (aI r), h) 29 [none, some (aA v1), some (aI v2), some (aI v3), some (aI v4), some (aI v5), none] [aI x3] h from ?_)
    refine go_istore (loc2 := [none, some (aA v1), some (aI v2), some (aI v3), some (aI v4), some (aI v5), some (aI x3)]) dX2_fresh_29 (by decide) rfl ?_
    refine go_iload dX2_fresh_31 rfl ?_
    refine go_iload dX2_fresh_33 rfl ?_
    obtain ⟨x4, ex4, H⟩ := bind_some H
    refine go_callS (vs := [aI x3]) (stk := [aI v4]) (o1 := (some (aI x4), h)) mk_X5_firstBit ss_X2_fresh_58 dX2_fresh_35 rfl rfl (Nat.le_of_ble_eq_true rfl) (Nat.le_of_ble_eq_true rfl) (ok_X5_firstBit ex4) (show Go M_X2_fresh (some (aI r), h) 38 [none, some (aA v1), some (aI v2), some (aI v3), some (aI v4), some (aI v5), some (aI x3)] [aI x4, aI v4] h from ?_)
    refine go_iloadn dX2_fresh_38 rfl ?_
    refine go_icmp_ne (tgt := 46) dX2_fresh_39 (by decide) (fun c6 => ?_) (fun c6 => ?_)
    · rw [if_pos c6] at H
      refine go_iconst (v := (0 : Int32)) dX2_fresh_46 rfl ?_
      refine go_mask [false, true, true, true, false, true, false] (loc' := [none, some (aA v1), some (aI v2), some (aI v3), none, some (aI v5), none]) rfl ?_
      exact okj_X2_fresh_47 v1 v2 v3 v5 v4 (0 : Int32) h k Hk H
    · rw [if_neg c6] at H
      refine go_iconst (v := (1 : Int32)) dX2_fresh_42 rfl ?_
      refine go_goto (tgt := 47) dX2_fresh_43 (by decide) ?_
      refine go_mask [false, true, true, true, false, true, false] (loc' := [none, some (aA v1), some (aI v2), some (aI v3), none, some (aI v5), none]) rfl ?_
      exact okj_X2_fresh_47 v1 v2 v3 v5 v4 (1 : Int32) h k Hk H
def l_X2_fresh_6 (v1 : Nat) (v2 : Int32) (v3 : Int32) (h : Hp) (v4 : Int32) (v5 : Int32) : Option Int32 := loopK FUEL (fun (k : Int32 × Int32 → Option Int32) (s : Int32 × Int32) => b_X2_fresh_6 v1 v2 v3 h (fun v4q v5q => k (v4q, v5q)) s.1 s.2) (v4, v5)
theorem okl_X2_fresh_6 {r : Int32} (v1 : Nat) (v2 : Int32) (v3 : Int32) (h : Hp) (v4 : Int32) (v5 : Int32) (H : l_X2_fresh_6 v1 v2 v3 h v4 v5 = some r) : Go M_X2_fresh (some (aI r), h) 6 [none, some (aA v1), some (aI v2), some (aI v3), some (aI v4), some (aI v5), none] [] h := by
  unfold l_X2_fresh_6 at H
  exact go_loop (σ := Int32 × Int32) (body := (fun (k : Int32 × Int32 → Option Int32) (s : Int32 × Int32) => b_X2_fresh_6 v1 v2 v3 h (fun v4q v5q => k (v4q, v5q)) s.1 s.2)) (fun s => [none, some (aA v1), some (aI v2), some (aI v3), some (aI s.1), some (aI s.2), none]) (fun s => h) (fun k s Hk H => okb_X2_fresh_6 v1 v2 v3 h (fun v4q v5q => k (v4q, v5q)) s.1 s.2  (fun v4q v5q H => Hk (v4q, v5q) H) H) FUEL (v4, v5) H
def m_X2_fresh (v0 : Nat) (v1 : Nat) (v2 : Int32) (v3 : Int32) (h : Hp) : Option Int32 :=
  l_X2_fresh_6 v1 v2 v3 h (0 : Int32) (0 : Int32)
set_option maxRecDepth 20000 in
theorem ok_X2_fresh {r : Int32} {v0 : Nat} {v1 : Nat} {v2 : Int32} {v3 : Int32} {h : Hp} (H : m_X2_fresh v0 v1 v2 v3 h = some r) : Ev M_X2_fresh [aA v0, aA v1, aI v2, aI v3] h (some (aI r), h) := by
  show Go M_X2_fresh (some (aI r), h) 0 [some (aA v0), some (aA v1), some (aI v2), some (aI v3), none, none, none] [] h
  unfold m_X2_fresh at H
  refine go_iconst (v := (0 : Int32)) dX2_fresh_0 rfl ?_
  refine go_istore (loc2 := [some (aA v0), some (aA v1), some (aI v2), some (aI v3), some (aI (0 : Int32)), none, none]) dX2_fresh_1 (by decide) rfl ?_
  refine go_iconst (v := (0 : Int32)) dX2_fresh_3 rfl ?_
  refine go_istore (loc2 := [some (aA v0), some (aA v1), some (aI v2), some (aI v3), some (aI (0 : Int32)), some (aI (0 : Int32)), none]) dX2_fresh_4 (by decide) rfl ?_
  refine go_mask [false, true, true, true, true, true, false] (loc' := [none, some (aA v1), some (aI v2), some (aI v3), some (aI (0 : Int32)), some (aI (0 : Int32)), none]) rfl ?_
  exact okl_X2_fresh_6 v1 v2 v3 h (0 : Int32) (0 : Int32) H
/-! X2_inBoth -/
def b_X2_inBoth_6 (v1 : Nat) (v2 : Int32) (v3 : Int32) (v4 : Int32) (h : Hp) (k : Int32 → Int32 → Option Int32) (v5 : Int32) (v6 : Int32) : Option Int32 :=
  (rc h v1 1 (m_X0_lengthOf v1 v2 v3 h)).bind fun x1 => if x1 ≤ v6 then (some v5) else (rc h v1 1 (m_X0_tokenAt v1 v2 v3 v6 h)).bind fun x2 => (rc h v1 1 (m_X0_stayOf v1 x2 h)).bind fun x3 => (m_X5_bit x3 v4 h).bind fun x4 => k (v5 + x4) (v6 + (1 : Int32))
set_option maxRecDepth 20000 in
theorem okb_X2_inBoth_6 {r : Int32} (v1 : Nat) (v2 : Int32) (v3 : Int32) (v4 : Int32) (h : Hp) (k : Int32 → Int32 → Option Int32) (v5 : Int32) (v6 : Int32) (Hk : ∀ (v5q : Int32) (v6q : Int32), k v5q v6q = some r → Go M_X2_inBoth (some (aI r), h) 6 [none, some (aA v1), some (aI v2), some (aI v3), some (aI v4), some (aI v5q), some (aI v6q)] [] h) (H : b_X2_inBoth_6 v1 v2 v3 v4 h k v5 v6 = some r) : Go M_X2_inBoth (some (aI r), h) 6 [none, some (aA v1), some (aI v2), some (aI v3), some (aI v4), some (aI v5), some (aI v6)] [] h := by
  unfold b_X2_inBoth_6 at H
  refine go_iload dX2_inBoth_6 rfl ?_
  refine go_aloadn dX2_inBoth_8 rfl ?_
  refine go_iloadn dX2_inBoth_9 rfl ?_
  refine go_iloadn dX2_inBoth_10 rfl ?_
  obtain ⟨c1, x1, ex1, H⟩ := gm_rc H
  refine go_callV (vs := [aI v2, aI v3]) (stk := [aI v6]) (o1 := (some (aI x1), h)) mk_X0_lengthOf sv_X2_inBoth_25 cl_X0 rfl dX2_inBoth_11 c1 rfl rfl (Nat.le_of_ble_eq_true rfl) (Nat.le_of_ble_eq_true rfl) (ok_X0_lengthOf ex1) (show Go M_X2_inBoth (some (aI r), h) 14 [none, some (aA v1), some (aI v2), some (aI v3), some (aI v4), some (aI v5), some (aI v6)] [aI x1, aI v6] h from ?_)
  refine go_icmp_ge (tgt := 45) dX2_inBoth_14 (by decide) (fun c2 => ?_) (fun c2 => ?_)
  · replace H := (gm_ite H).1 c2
    refine go_iload dX2_inBoth_45 rfl ?_
    obtain rfl := Option.some.inj H
    exact go_ireturn dX2_inBoth_47 (tyI_int rfl)
  · replace H := (gm_ite H).2 c2
    refine go_iload dX2_inBoth_17 rfl ?_
    refine go_aloadn dX2_inBoth_19 rfl ?_
    refine go_aloadn dX2_inBoth_20 rfl ?_
    refine go_iloadn dX2_inBoth_21 rfl ?_
    refine go_iloadn dX2_inBoth_22 rfl ?_
    refine go_iload dX2_inBoth_23 rfl ?_
    obtain ⟨c3, x2, ex2, H⟩ := gm_rc H
    refine go_callV (vs := [aI v2, aI v3, aI v6]) (stk := [aA v1, aI v5]) (o1 := (some (aI x2), h)) mk_X0_tokenAt sv_X2_inBoth_55 cl_X0 rfl dX2_inBoth_25 c3 rfl rfl (Nat.le_of_ble_eq_true rfl) (Nat.le_of_ble_eq_true rfl) (ok_X0_tokenAt ex2) (show Go M_X2_inBoth (some (aI r), h) 28 [none, some (aA v1), some (aI v2), some (aI v3), some (aI v4), some (aI v5), some (aI v6)] [aI x2, aA v1, aI v5] h from ?_)
    obtain ⟨c4, x3, ex3, H⟩ := gm_rc H
    refine go_callV (vs := [aI x2]) (stk := [aI v5]) (o1 := (some (aI x3), h)) mk_X0_stayOf sv_X2_inBoth_32 cl_X0 rfl dX2_inBoth_28 c4 rfl rfl (Nat.le_of_ble_eq_true rfl) (Nat.le_of_ble_eq_true rfl) (ok_X0_stayOf ex3) (show Go M_X2_inBoth (some (aI r), h) 31 [none, some (aA v1), some (aI v2), some (aI v3), some (aI v4), some (aI v5), some (aI v6)] [aI x3, aI v5] h from ?_)
    refine go_iload dX2_inBoth_31 rfl ?_
    obtain ⟨x4, ex4, H⟩ := bind_some H
    refine go_callS (vs := [aI x3, aI v4]) (stk := [aI v5]) (o1 := (some (aI x4), h)) mk_X5_bit ss_X2_inBoth_70 dX2_inBoth_33 rfl rfl (Nat.le_of_ble_eq_true rfl) (Nat.le_of_ble_eq_true rfl) (ok_X5_bit ex4) (show Go M_X2_inBoth (some (aI r), h) 36 [none, some (aA v1), some (aI v2), some (aI v3), some (aI v4), some (aI v5), some (aI v6)] [aI x4, aI v5] h from ?_)
    refine go_iadd dX2_inBoth_36 ?_
    refine go_istore (loc2 := [none, some (aA v1), some (aI v2), some (aI v3), some (aI v4), some (aI (v5 + x4)), some (aI v6)]) dX2_inBoth_37 (by decide) rfl ?_
    refine go_iinc (v := (v6 + (1 : Int32))) (loc2 := [none, some (aA v1), some (aI v2), some (aI v3), some (aI v4), some (aI (v5 + x4)), some (aI (v6 + (1 : Int32)))]) dX2_inBoth_39 rfl rfl (by decide) rfl ?_
    refine go_goto (tgt := 6) dX2_inBoth_42 (by decide) ?_
    exact Hk (v5 + x4) (v6 + (1 : Int32)) H
def l_X2_inBoth_6 (v1 : Nat) (v2 : Int32) (v3 : Int32) (v4 : Int32) (h : Hp) (v5 : Int32) (v6 : Int32) : Option Int32 := loopK FUEL (fun (k : Int32 × Int32 → Option Int32) (s : Int32 × Int32) => b_X2_inBoth_6 v1 v2 v3 v4 h (fun v5q v6q => k (v5q, v6q)) s.1 s.2) (v5, v6)
theorem okl_X2_inBoth_6 {r : Int32} (v1 : Nat) (v2 : Int32) (v3 : Int32) (v4 : Int32) (h : Hp) (v5 : Int32) (v6 : Int32) (H : l_X2_inBoth_6 v1 v2 v3 v4 h v5 v6 = some r) : Go M_X2_inBoth (some (aI r), h) 6 [none, some (aA v1), some (aI v2), some (aI v3), some (aI v4), some (aI v5), some (aI v6)] [] h := by
  unfold l_X2_inBoth_6 at H
  exact go_loop (σ := Int32 × Int32) (body := (fun (k : Int32 × Int32 → Option Int32) (s : Int32 × Int32) => b_X2_inBoth_6 v1 v2 v3 v4 h (fun v5q v6q => k (v5q, v6q)) s.1 s.2)) (fun s => [none, some (aA v1), some (aI v2), some (aI v3), some (aI v4), some (aI s.1), some (aI s.2)]) (fun s => h) (fun k s Hk H => okb_X2_inBoth_6 v1 v2 v3 v4 h (fun v5q v6q => k (v5q, v6q)) s.1 s.2  (fun v5q v6q H => Hk (v5q, v6q) H) H) FUEL (v5, v6) H
def m_X2_inBoth (v0 : Nat) (v1 : Nat) (v2 : Int32) (v3 : Int32) (v4 : Int32) (h : Hp) : Option Int32 :=
  l_X2_inBoth_6 v1 v2 v3 v4 h (0 : Int32) (0 : Int32)
set_option maxRecDepth 20000 in
theorem ok_X2_inBoth {r : Int32} {v0 : Nat} {v1 : Nat} {v2 : Int32} {v3 : Int32} {v4 : Int32} {h : Hp} (H : m_X2_inBoth v0 v1 v2 v3 v4 h = some r) : Ev M_X2_inBoth [aA v0, aA v1, aI v2, aI v3, aI v4] h (some (aI r), h) := by
  show Go M_X2_inBoth (some (aI r), h) 0 [some (aA v0), some (aA v1), some (aI v2), some (aI v3), some (aI v4), none, none] [] h
  unfold m_X2_inBoth at H
  refine go_iconst (v := (0 : Int32)) dX2_inBoth_0 rfl ?_
  refine go_istore (loc2 := [some (aA v0), some (aA v1), some (aI v2), some (aI v3), some (aI v4), some (aI (0 : Int32)), none]) dX2_inBoth_1 (by decide) rfl ?_
  refine go_iconst (v := (0 : Int32)) dX2_inBoth_3 rfl ?_
  refine go_istore (loc2 := [some (aA v0), some (aA v1), some (aI v2), some (aI v3), some (aI v4), some (aI (0 : Int32)), some (aI (0 : Int32))]) dX2_inBoth_4 (by decide) rfl ?_
  refine go_mask [false, true, true, true, true, true, true] (loc' := [none, some (aA v1), some (aI v2), some (aI v3), some (aI v4), some (aI (0 : Int32)), some (aI (0 : Int32))]) rfl ?_
  exact okl_X2_inBoth_6 v1 v2 v3 v4 h (0 : Int32) (0 : Int32) H
/-! X2_lost -/
def m_X2_lost (v0 : Nat) (v1 : Nat) (v2 : Int32) (v3 : Int32) (h : Hp) : Option Int32 :=
  if ¬ v3 = 0 then ((rc h v1 1 (m_X0_lengthOf v1 v2 (v3 - (1 : Int32)) h)).bind fun x1 => (rc h v0 3 (m_X2_inBoth v0 v1 v2 (v3 - (1 : Int32)) v3 h)).bind fun x2 => some (x1 - x2)) else some (0 : Int32)
set_option maxRecDepth 20000 in
theorem ok_X2_lost {r : Int32} {v0 : Nat} {v1 : Nat} {v2 : Int32} {v3 : Int32} {h : Hp} (H : m_X2_lost v0 v1 v2 v3 h = some r) : Ev M_X2_lost [aA v0, aA v1, aI v2, aI v3] h (some (aI r), h) := by
  show Go M_X2_lost (some (aI r), h) 0 [some (aA v0), some (aA v1), some (aI v2), some (aI v3)] [] h
  unfold m_X2_lost at H
  refine go_iloadn dX2_lost_0 rfl ?_
  refine go_if_ne (tgt := 6) dX2_lost_1 (by decide) (fun c1 => ?_) (fun c1 => ?_)
  · replace H := (gm_ite H).1 c1
    refine go_aloadn dX2_lost_6 rfl ?_
    refine go_iloadn dX2_lost_7 rfl ?_
    refine go_iloadn dX2_lost_8 rfl ?_
    refine go_iconst (v := (1 : Int32)) dX2_lost_9 rfl ?_
    refine go_isub dX2_lost_10 ?_
    obtain ⟨c2, x1, ex1, H⟩ := gm_rc H
    refine go_callV (vs := [aI v2, aI (v3 - (1 : Int32))]) (stk := []) (o1 := (some (aI x1), h)) mk_X0_lengthOf sv_X2_lost_25 cl_X0 rfl dX2_lost_11 c2 rfl rfl (Nat.le_of_ble_eq_true rfl) (Nat.le_of_ble_eq_true rfl) (ok_X0_lengthOf ex1) (show Go M_X2_lost (some (aI r), h) 14 [some (aA v0), some (aA v1), some (aI v2), some (aI v3)] [aI x1] h from ?_)
    refine go_aloadn dX2_lost_14 rfl ?_
    refine go_aloadn dX2_lost_15 rfl ?_
    refine go_iloadn dX2_lost_16 rfl ?_
    refine go_iloadn dX2_lost_17 rfl ?_
    refine go_iconst (v := (1 : Int32)) dX2_lost_18 rfl ?_
    refine go_isub dX2_lost_19 ?_
    refine go_iloadn dX2_lost_20 rfl ?_
    obtain ⟨c3, x2, ex2, H⟩ := gm_rc H
    refine go_callV (vs := [aA v1, aI v2, aI (v3 - (1 : Int32)), aI v3]) (stk := [aI x1]) (o1 := (some (aI x2), h)) mk_X2_inBoth sv_X2_lost_87 cl_X2 rfl dX2_lost_21 c3 rfl rfl (Nat.le_of_ble_eq_true rfl) (Nat.le_of_ble_eq_true rfl) (ok_X2_inBoth ex2) (show Go M_X2_lost (some (aI r), h) 24 [some (aA v0), some (aA v1), some (aI v2), some (aI v3)] [aI x2, aI x1] h from ?_)
    refine go_isub dX2_lost_24 ?_
    obtain rfl := Option.some.inj H
    exact go_ireturn dX2_lost_25 (tyI_int rfl)
  · replace H := (gm_ite H).2 c1
    refine go_iconst (v := (0 : Int32)) dX2_lost_4 rfl ?_
    obtain rfl := Option.some.inj H
    exact go_ireturn dX2_lost_5 (tyI_int rfl)
/-! X2_turned -/
def j_X2_turned_89 (v0 : Nat) (v1 : Nat) (v2 : Int32) (v3 : Int32) (v5 : Int32) (v6 : Int32) (v7 : Int32) (s0 : Int32) (s1 : Int32) (h : Hp) (K98 : Int32 → Option Int32) (k : Int32 → Int32 → Option Int32) : Option Int32 :=
  k (s0 + s1) (v7 + (1 : Int32))
set_option maxRecDepth 20000 in
theorem okj_X2_turned_89 {r : Int32} (v0 : Nat) (v1 : Nat) (v2 : Int32) (v3 : Int32) (v5 : Int32) (v6 : Int32) (v7 : Int32) (s0 : Int32) (s1 : Int32) (h : Hp) (K98 : Int32 → Option Int32) (k : Int32 → Int32 → Option Int32) (HK98 : ∀ (v4q : Int32) , K98 v4q = some r → Go M_X2_turned (some (aI r), h) 98 [some (aA v0), some (aA v1), some (aI v2), some (aI v3), some (aI v4q), some (aI v5), none, none, none] [] h) (Hk : ∀ (v4q : Int32) (v7q : Int32), k v4q v7q = some r → Go M_X2_turned (some (aI r), h) 43 [some (aA v0), some (aA v1), some (aI v2), some (aI v3), some (aI v4q), some (aI v5), some (aI v6), some (aI v7q), none] [] h) (H : j_X2_turned_89 v0 v1 v2 v3 v5 v6 v7 s0 s1 h K98 k = some r) : Go M_X2_turned (some (aI r), h) 89 [some (aA v0), some (aA v1), some (aI v2), some (aI v3), none, some (aI v5), some (aI v6), some (aI v7), none] [aI s1, aI s0] h := by
  unfold j_X2_turned_89 at H
  refine go_iadd dX2_turned_89 ?_
  refine go_istore (loc2 := [some (aA v0), some (aA v1), some (aI v2), some (aI v3), some (aI (s0 + s1)), some (aI v5), some (aI v6), some (aI v7), none]) dX2_turned_90 (by decide) rfl ?_
  refine go_iinc (v := (v7 + (1 : Int32))) (loc2 := [some (aA v0), some (aA v1), some (aI v2), some (aI v3), some (aI (s0 + s1)), some (aI v5), some (aI v6), some (aI (v7 + (1 : Int32))), none]) dX2_turned_92 rfl rfl (by decide) rfl ?_
  refine go_goto (tgt := 43) dX2_turned_95 (by decide) ?_
  exact Hk (s0 + s1) (v7 + (1 : Int32)) H
def b_X2_turned_43 (v0 : Nat) (v1 : Nat) (v2 : Int32) (v3 : Int32) (v5 : Int32) (v6 : Int32) (h : Hp) (K98 : Int32 → Option Int32) (k : Int32 → Int32 → Option Int32) (v4 : Int32) (v7 : Int32) : Option Int32 :=
  if v5 ≤ v7 then K98 v4 else if v6 = (-1 : Int32) then K98 v4 else (rc h v1 1 (m_X0_tokenAt v1 v2 v3 v7 h)).bind fun x1 => (rc h v0 3 (m_X2_placeOf v0 v1 v2 (v3 - (1 : Int32)) x1 h)).bind fun x2 => j_X2_turned_89 v0 v1 v2 v3 v5 v6 v7 v4 (if x2 ≤ v6 then (0 : Int32) else (1 : Int32)) h K98 k
set_option maxRecDepth 20000 in
theorem okb_X2_turned_43 {r : Int32} (v0 : Nat) (v1 : Nat) (v2 : Int32) (v3 : Int32) (v5 : Int32) (v6 : Int32) (h : Hp) (K98 : Int32 → Option Int32) (k : Int32 → Int32 → Option Int32) (v4 : Int32) (v7 : Int32) (HK98 : ∀ (v4q : Int32) , K98 v4q = some r → Go M_X2_turned (some (aI r), h) 98 [some (aA v0), some (aA v1), some (aI v2), some (aI v3), some (aI v4q), some (aI v5), none, none, none] [] h) (Hk : ∀ (v4q : Int32) (v7q : Int32), k v4q v7q = some r → Go M_X2_turned (some (aI r), h) 43 [some (aA v0), some (aA v1), some (aI v2), some (aI v3), some (aI v4q), some (aI v5), some (aI v6), some (aI v7q), none] [] h) (H : b_X2_turned_43 v0 v1 v2 v3 v5 v6 h K98 k v4 v7 = some r) : Go M_X2_turned (some (aI r), h) 43 [some (aA v0), some (aA v1), some (aI v2), some (aI v3), some (aI v4), some (aI v5), some (aI v6), some (aI v7), none] [] h := by
  unfold b_X2_turned_43 at H
  refine go_iload dX2_turned_43 rfl ?_
  refine go_iload dX2_turned_45 rfl ?_
  refine go_icmp_ge (tgt := 98) dX2_turned_47 (by decide) (fun c1 => ?_) (fun c1 => ?_)
  · replace H := (gm_ite H).1 c1
    refine go_mask [true, true, true, true, true, true, false, false, false] (loc' := [some (aA v0), some (aA v1), some (aI v2), some (aI v3), some (aI v4), some (aI v5), none, none, none]) rfl ?_
    exact HK98 v4 H
  · replace H := (gm_ite H).2 c1
    refine go_iload dX2_turned_50 rfl ?_
    refine go_iconst (v := (-1 : Int32)) dX2_turned_52 rfl ?_
    refine go_icmp_eq (tgt := 98) dX2_turned_53 (by decide) (fun c2 => ?_) (fun c2 => ?_)
    · replace H := (gm_ite H).1 c2
      refine go_mask [true, true, true, true, true, true, false, false, false] (loc' := [some (aA v0), some (aA v1), some (aI v2), some (aI v3), some (aI v4), some (aI v5), none, none, none]) rfl ?_
      exact HK98 v4 H
    · replace H := (gm_ite H).2 c2
      refine go_aloadn dX2_turned_56 rfl ?_
      refine go_iloadn dX2_turned_57 rfl ?_
      refine go_iloadn dX2_turned_58 rfl ?_
      refine go_iload dX2_turned_59 rfl ?_
      obtain ⟨c3, x1, ex1, H⟩ := gm_rc H
      refine go_callV (vs := [aI v2, aI v3, aI v7]) (stk := []) (o1 := (some (aI x1), h)) mk_X0_tokenAt sv_X2_turned_55 cl_X0 rfl dX2_turned_61 c3 rfl rfl (Nat.le_of_ble_eq_true rfl) (Nat.le_of_ble_eq_true rfl) (ok_X0_tokenAt ex1) (show Go M_X2_turned (some (aI r), h) 64 [some (aA v0), some (aA v1), some (aI v2), some (aI v3), some (aI v4), some (aI v5), some (aI v6), some (aI v7), none] [aI x1] h from ?_)
      refine go_istore (loc2 := [some (aA v0), some (aA v1), some (aI v2), some (aI v3), some (aI v4), some (aI v5), some (aI v6), some (aI v7), some (aI x1)]) dX2_turned_64 (by decide) rfl ?_
      refine go_iload dX2_turned_66 rfl ?_
      refine go_aloadn dX2_turned_68 rfl ?_
      refine go_aloadn dX2_turned_69 rfl ?_
      refine go_iloadn dX2_turned_70 rfl ?_
      refine go_iloadn dX2_turned_71 rfl ?_
      refine go_iconst (v := (1 : Int32)) dX2_turned_72 rfl ?_
      refine go_isub dX2_turned_73 ?_
      refine go_iload dX2_turned_74 rfl ?_
      obtain ⟨c4, x2, ex2, H⟩ := gm_rc H
      refine go_callV (vs := [aA v1, aI v2, aI (v3 - (1 : Int32)), aI x1]) (stk := [aI v4]) (o1 := (some (aI x2), h)) mk_X2_placeOf sv_X2_turned_73 cl_X2 rfl dX2_turned_76 c4 rfl rfl (Nat.le_of_ble_eq_true rfl) (Nat.le_of_ble_eq_true rfl) (ok_X2_placeOf ex2) (show Go M_X2_turned (some (aI r), h) 79 [some (aA v0), some (aA v1), some (aI v2), some (aI v3), some (aI v4), some (aI v5), some (aI v6), some (aI v7), some (aI x1)] [aI x2, aI v4] h from ?_)
      refine go_iload dX2_turned_79 rfl ?_
      refine go_icmp_le (tgt := 88) dX2_turned_81 (by decide) (fun c5 => ?_) (fun c5 => ?_)
      · rw [if_pos c5] at H
        refine go_iconst (v := (0 : Int32)) dX2_turned_88 rfl ?_
        refine go_mask [true, true, true, true, false, true, true, true, false] (loc' := [some (aA v0), some (aA v1), some (aI v2), some (aI v3), none, some (aI v5), some (aI v6), some (aI v7), none]) rfl ?_
        exact okj_X2_turned_89 v0 v1 v2 v3 v5 v6 v7 v4 (0 : Int32) h K98 k HK98 Hk H
      · rw [if_neg c5] at H
        refine go_iconst (v := (1 : Int32)) dX2_turned_84 rfl ?_
        refine go_goto (tgt := 89) dX2_turned_85 (by decide) ?_
        refine go_mask [true, true, true, true, false, true, true, true, false] (loc' := [some (aA v0), some (aA v1), some (aI v2), some (aI v3), none, some (aI v5), some (aI v6), some (aI v7), none]) rfl ?_
        exact okj_X2_turned_89 v0 v1 v2 v3 v5 v6 v7 v4 (1 : Int32) h K98 k HK98 Hk H
def l_X2_turned_43 (v0 : Nat) (v1 : Nat) (v2 : Int32) (v3 : Int32) (v5 : Int32) (v6 : Int32) (h : Hp) (K98 : Int32 → Option Int32) (v4 : Int32) (v7 : Int32) : Option Int32 := loopK FUEL (fun (k : Int32 × Int32 → Option Int32) (s : Int32 × Int32) => b_X2_turned_43 v0 v1 v2 v3 v5 v6 h K98 (fun v4q v7q => k (v4q, v7q)) s.1 s.2) (v4, v7)
theorem okl_X2_turned_43 {r : Int32} (v0 : Nat) (v1 : Nat) (v2 : Int32) (v3 : Int32) (v5 : Int32) (v6 : Int32) (h : Hp) (K98 : Int32 → Option Int32) (v4 : Int32) (v7 : Int32) (HK98 : ∀ (v4q : Int32) , K98 v4q = some r → Go M_X2_turned (some (aI r), h) 98 [some (aA v0), some (aA v1), some (aI v2), some (aI v3), some (aI v4q), some (aI v5), none, none, none] [] h) (H : l_X2_turned_43 v0 v1 v2 v3 v5 v6 h K98 v4 v7 = some r) : Go M_X2_turned (some (aI r), h) 43 [some (aA v0), some (aA v1), some (aI v2), some (aI v3), some (aI v4), some (aI v5), some (aI v6), some (aI v7), none] [] h := by
  unfold l_X2_turned_43 at H
  exact go_loop (σ := Int32 × Int32) (body := (fun (k : Int32 × Int32 → Option Int32) (s : Int32 × Int32) => b_X2_turned_43 v0 v1 v2 v3 v5 v6 h K98 (fun v4q v7q => k (v4q, v7q)) s.1 s.2)) (fun s => [some (aA v0), some (aA v1), some (aI v2), some (aI v3), some (aI s.1), some (aI v5), some (aI v6), some (aI s.2), none]) (fun s => h) (fun k s Hk H => okb_X2_turned_43 v0 v1 v2 v3 v5 v6 h K98 (fun v4q v7q => k (v4q, v7q)) s.1 s.2 HK98 (fun v4q v7q H => Hk (v4q, v7q) H) H) FUEL (v4, v7) H
def j_X2_turned_98 (v0 : Nat) (v1 : Nat) (v2 : Int32) (v3 : Int32) (v4 : Int32) (v5 : Int32)  (h : Hp) (k : Int32 → Int32 → Option Int32) : Option Int32 :=
  k v4 (v5 + (1 : Int32))
set_option maxRecDepth 20000 in
theorem okj_X2_turned_98 {r : Int32} (v0 : Nat) (v1 : Nat) (v2 : Int32) (v3 : Int32) (v4 : Int32) (v5 : Int32)  (h : Hp) (k : Int32 → Int32 → Option Int32) (Hk : ∀ (v4q : Int32) (v5q : Int32), k v4q v5q = some r → Go M_X2_turned (some (aI r), h) 6 [some (aA v0), some (aA v1), some (aI v2), some (aI v3), some (aI v4q), some (aI v5q), none, none, none] [] h) (H : j_X2_turned_98 v0 v1 v2 v3 v4 v5 h k = some r) : Go M_X2_turned (some (aI r), h) 98 [some (aA v0), some (aA v1), some (aI v2), some (aI v3), some (aI v4), some (aI v5), none, none, none] [] h := by
  unfold j_X2_turned_98 at H
  refine go_iinc (v := (v5 + (1 : Int32))) (loc2 := [some (aA v0), some (aA v1), some (aI v2), some (aI v3), some (aI v4), some (aI (v5 + (1 : Int32))), none, none, none]) dX2_turned_98 rfl rfl (by decide) rfl ?_
  refine go_goto (tgt := 6) dX2_turned_101 (by decide) ?_
  exact Hk v4 (v5 + (1 : Int32)) H
def b_X2_turned_6 (v0 : Nat) (v1 : Nat) (v2 : Int32) (v3 : Int32) (h : Hp) (k : Int32 → Int32 → Option Int32) (v4 : Int32) (v5 : Int32) : Option Int32 :=
  (rc h v1 1 (m_X0_lengthOf v1 v2 v3 h)).bind fun x1 => if x1 ≤ v5 then (some v4) else if v3 ≤ 0 then (some v4) else (rc h v1 1 (m_X0_tokenAt v1 v2 v3 v5 h)).bind fun x2 => (rc h v0 3 (m_X2_placeOf v0 v1 v2 (v3 - (1 : Int32)) x2 h)).bind fun x3 => l_X2_turned_43 v0 v1 v2 v3 v5 x3 h (fun a4_4 => j_X2_turned_98 v0 v1 v2 v3 a4_4 v5 h k) v4 (0 : Int32)
set_option maxRecDepth 20000 in
theorem okb_X2_turned_6 {r : Int32} (v0 : Nat) (v1 : Nat) (v2 : Int32) (v3 : Int32) (h : Hp) (k : Int32 → Int32 → Option Int32) (v4 : Int32) (v5 : Int32) (Hk : ∀ (v4q : Int32) (v5q : Int32), k v4q v5q = some r → Go M_X2_turned (some (aI r), h) 6 [some (aA v0), some (aA v1), some (aI v2), some (aI v3), some (aI v4q), some (aI v5q), none, none, none] [] h) (H : b_X2_turned_6 v0 v1 v2 v3 h k v4 v5 = some r) : Go M_X2_turned (some (aI r), h) 6 [some (aA v0), some (aA v1), some (aI v2), some (aI v3), some (aI v4), some (aI v5), none, none, none] [] h := by
  unfold b_X2_turned_6 at H
  refine go_iload dX2_turned_6 rfl ?_
  refine go_aloadn dX2_turned_8 rfl ?_
  refine go_iloadn dX2_turned_9 rfl ?_
  refine go_iloadn dX2_turned_10 rfl ?_
  obtain ⟨c1, x1, ex1, H⟩ := gm_rc H
  refine go_callV (vs := [aI v2, aI v3]) (stk := [aI v5]) (o1 := (some (aI x1), h)) mk_X0_lengthOf sv_X2_turned_25 cl_X0 rfl dX2_turned_11 c1 rfl rfl (Nat.le_of_ble_eq_true rfl) (Nat.le_of_ble_eq_true rfl) (ok_X0_lengthOf ex1) (show Go M_X2_turned (some (aI r), h) 14 [some (aA v0), some (aA v1), some (aI v2), some (aI v3), some (aI v4), some (aI v5), none, none, none] [aI x1, aI v5] h from ?_)
  refine go_icmp_ge (tgt := 104) dX2_turned_14 (by decide) (fun c2 => ?_) (fun c2 => ?_)
  · replace H := (gm_ite H).1 c2
    refine go_iload dX2_turned_104 rfl ?_
    obtain rfl := Option.some.inj H
    exact go_ireturn dX2_turned_106 (tyI_int rfl)
  · replace H := (gm_ite H).2 c2
    refine go_iloadn dX2_turned_17 rfl ?_
    refine go_if_le (tgt := 104) dX2_turned_18 (by decide) (fun c3 => ?_) (fun c3 => ?_)
    · replace H := (gm_ite H).1 c3
      refine go_iload dX2_turned_104 rfl ?_
      obtain rfl := Option.some.inj H
      exact go_ireturn dX2_turned_106 (tyI_int rfl)
    · replace H := (gm_ite H).2 c3
      refine go_aloadn dX2_turned_21 rfl ?_
      refine go_aloadn dX2_turned_22 rfl ?_
      refine go_iloadn dX2_turned_23 rfl ?_
      refine go_iloadn dX2_turned_24 rfl ?_
      refine go_iconst (v := (1 : Int32)) dX2_turned_25 rfl ?_
      refine go_isub dX2_turned_26 ?_
      refine go_aloadn dX2_turned_27 rfl ?_
      refine go_iloadn dX2_turned_28 rfl ?_
      refine go_iloadn dX2_turned_29 rfl ?_
      refine go_iload dX2_turned_30 rfl ?_
      obtain ⟨c4, x2, ex2, H⟩ := gm_rc H
      refine go_callV (vs := [aI v2, aI v3, aI v5]) (stk := [aI (v3 - (1 : Int32)), aI v2, aA v1, aA v0]) (o1 := (some (aI x2), h)) mk_X0_tokenAt sv_X2_turned_55 cl_X0 rfl dX2_turned_32 c4 rfl rfl (Nat.le_of_ble_eq_true rfl) (Nat.le_of_ble_eq_true rfl) (ok_X0_tokenAt ex2) (show Go M_X2_turned (some (aI r), h) 35 [some (aA v0), some (aA v1), some (aI v2), some (aI v3), some (aI v4), some (aI v5), none, none, none] [aI x2, aI (v3 - (1 : Int32)), aI v2, aA v1, aA v0] h from ?_)
      obtain ⟨c5, x3, ex3, H⟩ := gm_rc H
      refine go_callV (vs := [aA v1, aI v2, aI (v3 - (1 : Int32)), aI x2]) (stk := []) (o1 := (some (aI x3), h)) mk_X2_placeOf sv_X2_turned_73 cl_X2 rfl dX2_turned_35 c5 rfl rfl (Nat.le_of_ble_eq_true rfl) (Nat.le_of_ble_eq_true rfl) (ok_X2_placeOf ex3) (show Go M_X2_turned (some (aI r), h) 38 [some (aA v0), some (aA v1), some (aI v2), some (aI v3), some (aI v4), some (aI v5), none, none, none] [aI x3] h from ?_)
      refine go_istore (loc2 := [some (aA v0), some (aA v1), some (aI v2), some (aI v3), some (aI v4), some (aI v5), some (aI x3), none, none]) dX2_turned_38 (by decide) rfl ?_
      refine go_iconst (v := (0 : Int32)) dX2_turned_40 rfl ?_
      refine go_istore (loc2 := [some (aA v0), some (aA v1), some (aI v2), some (aI v3), some (aI v4), some (aI v5), some (aI x3), some (aI (0 : Int32)), none]) dX2_turned_41 (by decide) rfl ?_
      refine okl_X2_turned_43 v0 v1 v2 v3 v5 x3 h (fun a4_4 => j_X2_turned_98 v0 v1 v2 v3 a4_4 v5 h k) v4 (0 : Int32) ?_ H
      · intro a4_4 H
        exact okj_X2_turned_98 v0 v1 v2 v3 a4_4 v5 h k Hk H
def l_X2_turned_6 (v0 : Nat) (v1 : Nat) (v2 : Int32) (v3 : Int32) (h : Hp) (v4 : Int32) (v5 : Int32) : Option Int32 := loopK FUEL (fun (k : Int32 × Int32 → Option Int32) (s : Int32 × Int32) => b_X2_turned_6 v0 v1 v2 v3 h (fun v4q v5q => k (v4q, v5q)) s.1 s.2) (v4, v5)
theorem okl_X2_turned_6 {r : Int32} (v0 : Nat) (v1 : Nat) (v2 : Int32) (v3 : Int32) (h : Hp) (v4 : Int32) (v5 : Int32) (H : l_X2_turned_6 v0 v1 v2 v3 h v4 v5 = some r) : Go M_X2_turned (some (aI r), h) 6 [some (aA v0), some (aA v1), some (aI v2), some (aI v3), some (aI v4), some (aI v5), none, none, none] [] h := by
  unfold l_X2_turned_6 at H
  exact go_loop (σ := Int32 × Int32) (body := (fun (k : Int32 × Int32 → Option Int32) (s : Int32 × Int32) => b_X2_turned_6 v0 v1 v2 v3 h (fun v4q v5q => k (v4q, v5q)) s.1 s.2)) (fun s => [some (aA v0), some (aA v1), some (aI v2), some (aI v3), some (aI s.1), some (aI s.2), none, none, none]) (fun s => h) (fun k s Hk H => okb_X2_turned_6 v0 v1 v2 v3 h (fun v4q v5q => k (v4q, v5q)) s.1 s.2  (fun v4q v5q H => Hk (v4q, v5q) H) H) FUEL (v4, v5) H
def m_X2_turned (v0 : Nat) (v1 : Nat) (v2 : Int32) (v3 : Int32) (h : Hp) : Option Int32 :=
  l_X2_turned_6 v0 v1 v2 v3 h (0 : Int32) (0 : Int32)
set_option maxRecDepth 20000 in
theorem ok_X2_turned {r : Int32} {v0 : Nat} {v1 : Nat} {v2 : Int32} {v3 : Int32} {h : Hp} (H : m_X2_turned v0 v1 v2 v3 h = some r) : Ev M_X2_turned [aA v0, aA v1, aI v2, aI v3] h (some (aI r), h) := by
  show Go M_X2_turned (some (aI r), h) 0 [some (aA v0), some (aA v1), some (aI v2), some (aI v3), none, none, none, none, none] [] h
  unfold m_X2_turned at H
  refine go_iconst (v := (0 : Int32)) dX2_turned_0 rfl ?_
  refine go_istore (loc2 := [some (aA v0), some (aA v1), some (aI v2), some (aI v3), some (aI (0 : Int32)), none, none, none, none]) dX2_turned_1 (by decide) rfl ?_
  refine go_iconst (v := (0 : Int32)) dX2_turned_3 rfl ?_
  refine go_istore (loc2 := [some (aA v0), some (aA v1), some (aI v2), some (aI v3), some (aI (0 : Int32)), some (aI (0 : Int32)), none, none, none]) dX2_turned_4 (by decide) rfl ?_
  exact okl_X2_turned_6 v0 v1 v2 v3 h (0 : Int32) (0 : Int32) H
/-! X2_oldest -/
def j_X2_oldest_62 (v1 : Nat) (v2 : Int32) (v3 : Int32) (v4 : Int32) (v5 : Int32) (v6 : Int32) (v7 : Int32)  (h : Hp) (k : Int32 → Int32 → Int32 → Option Int32) : Option Int32 :=
  k v5 v6 (v7 + (1 : Int32))
set_option maxRecDepth 20000 in
theorem okj_X2_oldest_62 {r : Int32} (v1 : Nat) (v2 : Int32) (v3 : Int32) (v4 : Int32) (v5 : Int32) (v6 : Int32) (v7 : Int32)  (h : Hp) (k : Int32 → Int32 → Int32 → Option Int32) (Hk : ∀ (v5q : Int32) (v6q : Int32) (v7q : Int32), k v5q v6q v7q = some r → Go M_X2_oldest (some (aI r), h) 16 [none, some (aA v1), some (aI v2), some (aI v3), some (aI v4), some (aI v5q), some (aI v6q), some (aI v7q), none] [] h) (H : j_X2_oldest_62 v1 v2 v3 v4 v5 v6 v7 h k = some r) : Go M_X2_oldest (some (aI r), h) 62 [none, some (aA v1), some (aI v2), some (aI v3), some (aI v4), some (aI v5), some (aI v6), some (aI v7), none] [] h := by
  unfold j_X2_oldest_62 at H
  refine go_iinc (v := (v7 + (1 : Int32))) (loc2 := [none, some (aA v1), some (aI v2), some (aI v3), some (aI v4), some (aI v5), some (aI v6), some (aI (v7 + (1 : Int32))), none]) dX2_oldest_62 rfl rfl (by decide) rfl ?_
  refine go_goto (tgt := 16) dX2_oldest_65 (by decide) ?_
  exact Hk v5 v6 (v7 + (1 : Int32)) H
def b_X2_oldest_16 (v1 : Nat) (v2 : Int32) (v3 : Int32) (v4 : Int32) (h : Hp) (k : Int32 → Int32 → Int32 → Option Int32) (v5 : Int32) (v6 : Int32) (v7 : Int32) : Option Int32 :=
  (rc h v1 1 (m_X0_lengthOf v1 v2 v3 h)).bind fun x1 => if x1 ≤ v7 then (some v5) else (rc h v1 1 (m_X0_tokenAt v1 v2 v3 v7 h)).bind fun x2 => (rc h v1 1 (m_X0_stayOf v1 x2 h)).bind fun x3 => (m_J6_bitCount_0f7a4 (x3 &&& v4) h).bind fun x4 => if x4 ≤ v6 then j_X2_oldest_62 v1 v2 v3 v4 v5 v6 v7 h k else j_X2_oldest_62 v1 v2 v3 v4 v7 x4 v7 h k
set_option maxRecDepth 20000 in
theorem okb_X2_oldest_16 {r : Int32} (v1 : Nat) (v2 : Int32) (v3 : Int32) (v4 : Int32) (h : Hp) (k : Int32 → Int32 → Int32 → Option Int32) (v5 : Int32) (v6 : Int32) (v7 : Int32) (Hk : ∀ (v5q : Int32) (v6q : Int32) (v7q : Int32), k v5q v6q v7q = some r → Go M_X2_oldest (some (aI r), h) 16 [none, some (aA v1), some (aI v2), some (aI v3), some (aI v4), some (aI v5q), some (aI v6q), some (aI v7q), none] [] h) (H : b_X2_oldest_16 v1 v2 v3 v4 h k v5 v6 v7 = some r) : Go M_X2_oldest (some (aI r), h) 16 [none, some (aA v1), some (aI v2), some (aI v3), some (aI v4), some (aI v5), some (aI v6), some (aI v7), none] [] h := by
  unfold b_X2_oldest_16 at H
  refine go_iload dX2_oldest_16 rfl ?_
  refine go_aloadn dX2_oldest_18 rfl ?_
  refine go_iloadn dX2_oldest_19 rfl ?_
  refine go_iloadn dX2_oldest_20 rfl ?_
  obtain ⟨c1, x1, ex1, H⟩ := gm_rc H
  refine go_callV (vs := [aI v2, aI v3]) (stk := [aI v7]) (o1 := (some (aI x1), h)) mk_X0_lengthOf sv_X2_oldest_25 cl_X0 rfl dX2_oldest_21 c1 rfl rfl (Nat.le_of_ble_eq_true rfl) (Nat.le_of_ble_eq_true rfl) (ok_X0_lengthOf ex1) (show Go M_X2_oldest (some (aI r), h) 24 [none, some (aA v1), some (aI v2), some (aI v3), some (aI v4), some (aI v5), some (aI v6), some (aI v7), none] [aI x1, aI v7] h from ?_)
  refine go_icmp_ge (tgt := 68) dX2_oldest_24 (by decide) (fun c2 => ?_) (fun c2 => ?_)
  · replace H := (gm_ite H).1 c2
    refine go_iload dX2_oldest_68 rfl ?_
    obtain rfl := Option.some.inj H
    exact go_ireturn dX2_oldest_70 (tyI_int rfl)
  · replace H := (gm_ite H).2 c2
    refine go_aloadn dX2_oldest_27 rfl ?_
    refine go_aloadn dX2_oldest_28 rfl ?_
    refine go_iloadn dX2_oldest_29 rfl ?_
    refine go_iloadn dX2_oldest_30 rfl ?_
    refine go_iload dX2_oldest_31 rfl ?_
    obtain ⟨c3, x2, ex2, H⟩ := gm_rc H
    refine go_callV (vs := [aI v2, aI v3, aI v7]) (stk := [aA v1]) (o1 := (some (aI x2), h)) mk_X0_tokenAt sv_X2_oldest_55 cl_X0 rfl dX2_oldest_33 c3 rfl rfl (Nat.le_of_ble_eq_true rfl) (Nat.le_of_ble_eq_true rfl) (ok_X0_tokenAt ex2) (show Go M_X2_oldest (some (aI r), h) 36 [none, some (aA v1), some (aI v2), some (aI v3), some (aI v4), some (aI v5), some (aI v6), some (aI v7), none] [aI x2, aA v1] h from ?_)
    obtain ⟨c4, x3, ex3, H⟩ := gm_rc H
    refine go_callV (vs := [aI x2]) (stk := []) (o1 := (some (aI x3), h)) mk_X0_stayOf sv_X2_oldest_32 cl_X0 rfl dX2_oldest_36 c4 rfl rfl (Nat.le_of_ble_eq_true rfl) (Nat.le_of_ble_eq_true rfl) (ok_X0_stayOf ex3) (show Go M_X2_oldest (some (aI r), h) 39 [none, some (aA v1), some (aI v2), some (aI v3), some (aI v4), some (aI v5), some (aI v6), some (aI v7), none] [aI x3] h from ?_)
    refine go_iload dX2_oldest_39 rfl ?_
    refine go_iand dX2_oldest_41 ?_
    obtain ⟨x4, ex4, H⟩ := bind_some H
    refine go_callS (vs := [aI (x3 &&& v4)]) (stk := []) (o1 := (some (aI x4), h)) mk_J6_bitCount_0f7a4 ss_X2_oldest_90 dX2_oldest_42 rfl rfl (Nat.le_of_ble_eq_true rfl) (Nat.le_of_ble_eq_true rfl) (ok_J6_bitCount_0f7a4 ex4) (show Go M_X2_oldest (some (aI r), h) 45 [none, some (aA v1), some (aI v2), some (aI v3), some (aI v4), some (aI v5), some (aI v6), some (aI v7), none] [aI x4] h from ?_)
    refine go_istore (loc2 := [none, some (aA v1), some (aI v2), some (aI v3), some (aI v4), some (aI v5), some (aI v6), some (aI v7), some (aI x4)]) dX2_oldest_45 (by decide) rfl ?_
    refine go_iload dX2_oldest_47 rfl ?_
    refine go_iload dX2_oldest_49 rfl ?_
    refine go_icmp_le (tgt := 62) dX2_oldest_51 (by decide) (fun c6 => ?_) (fun c6 => ?_)
    · replace H := (gm_ite H).1 c6
      refine go_mask [false, true, true, true, true, true, true, true, false] (loc' := [none, some (aA v1), some (aI v2), some (aI v3), some (aI v4), some (aI v5), some (aI v6), some (aI v7), none]) rfl ?_
      exact okj_X2_oldest_62 v1 v2 v3 v4 v5 v6 v7 h k Hk H
    · replace H := (gm_ite H).2 c6
      refine go_iload dX2_oldest_54 rfl ?_
      refine go_istore (loc2 := [none, some (aA v1), some (aI v2), some (aI v3), some (aI v4), some (aI v7), some (aI v6), some (aI v7), some (aI x4)]) dX2_oldest_56 (by decide) rfl ?_
      refine go_iload dX2_oldest_58 rfl ?_
      refine go_istore (loc2 := [none, some (aA v1), some (aI v2), some (aI v3), some (aI v4), some (aI v7), some (aI x4), some (aI v7), some (aI x4)]) dX2_oldest_60 (by decide) rfl ?_
      refine go_mask [false, true, true, true, true, true, true, true, false] (loc' := [none, some (aA v1), some (aI v2), some (aI v3), some (aI v4), some (aI v7), some (aI x4), some (aI v7), none]) rfl ?_
      exact okj_X2_oldest_62 v1 v2 v3 v4 v7 x4 v7 h k Hk H
def l_X2_oldest_16 (v1 : Nat) (v2 : Int32) (v3 : Int32) (v4 : Int32) (h : Hp) (v5 : Int32) (v6 : Int32) (v7 : Int32) : Option Int32 := loopK FUEL (fun (k : Int32 × Int32 × Int32 → Option Int32) (s : Int32 × Int32 × Int32) => b_X2_oldest_16 v1 v2 v3 v4 h (fun v5q v6q v7q => k (v5q, v6q, v7q)) s.1 s.2.1 s.2.2) (v5, v6, v7)
theorem okl_X2_oldest_16 {r : Int32} (v1 : Nat) (v2 : Int32) (v3 : Int32) (v4 : Int32) (h : Hp) (v5 : Int32) (v6 : Int32) (v7 : Int32) (H : l_X2_oldest_16 v1 v2 v3 v4 h v5 v6 v7 = some r) : Go M_X2_oldest (some (aI r), h) 16 [none, some (aA v1), some (aI v2), some (aI v3), some (aI v4), some (aI v5), some (aI v6), some (aI v7), none] [] h := by
  unfold l_X2_oldest_16 at H
  exact go_loop (σ := Int32 × Int32 × Int32) (body := (fun (k : Int32 × Int32 × Int32 → Option Int32) (s : Int32 × Int32 × Int32) => b_X2_oldest_16 v1 v2 v3 v4 h (fun v5q v6q v7q => k (v5q, v6q, v7q)) s.1 s.2.1 s.2.2)) (fun s => [none, some (aA v1), some (aI v2), some (aI v3), some (aI v4), some (aI s.1), some (aI s.2.1), some (aI s.2.2), none]) (fun s => h) (fun k s Hk H => okb_X2_oldest_16 v1 v2 v3 v4 h (fun v5q v6q v7q => k (v5q, v6q, v7q)) s.1 s.2.1 s.2.2  (fun v5q v6q v7q H => Hk (v5q, v6q, v7q) H) H) FUEL (v5, v6, v7) H
def m_X2_oldest (v0 : Nat) (v1 : Nat) (v2 : Int32) (v3 : Int32) (h : Hp) : Option Int32 :=
  l_X2_oldest_16 v1 v2 v3 ((ishlF (2 : Int32) v3) - (1 : Int32)) h (-1 : Int32) (0 : Int32) (0 : Int32)
set_option maxRecDepth 20000 in
theorem ok_X2_oldest {r : Int32} {v0 : Nat} {v1 : Nat} {v2 : Int32} {v3 : Int32} {h : Hp} (H : m_X2_oldest v0 v1 v2 v3 h = some r) : Ev M_X2_oldest [aA v0, aA v1, aI v2, aI v3] h (some (aI r), h) := by
  show Go M_X2_oldest (some (aI r), h) 0 [some (aA v0), some (aA v1), some (aI v2), some (aI v3), none, none, none, none, none] [] h
  unfold m_X2_oldest at H
  refine go_iconst (v := (2 : Int32)) dX2_oldest_0 rfl ?_
  refine go_iloadn dX2_oldest_1 rfl ?_
  refine go_ishl dX2_oldest_2 ?_
  refine go_iconst (v := (1 : Int32)) dX2_oldest_3 rfl ?_
  refine go_isub dX2_oldest_4 ?_
  refine go_istore (loc2 := [some (aA v0), some (aA v1), some (aI v2), some (aI v3), some (aI ((ishlF (2 : Int32) v3) - (1 : Int32))), none, none, none, none]) dX2_oldest_5 (by decide) rfl ?_
  refine go_iconst (v := (-1 : Int32)) dX2_oldest_7 rfl ?_
  refine go_istore (loc2 := [some (aA v0), some (aA v1), some (aI v2), some (aI v3), some (aI ((ishlF (2 : Int32) v3) - (1 : Int32))), some (aI (-1 : Int32)), none, none, none]) dX2_oldest_8 (by decide) rfl ?_
  refine go_iconst (v := (0 : Int32)) dX2_oldest_10 rfl ?_
  refine go_istore (loc2 := [some (aA v0), some (aA v1), some (aI v2), some (aI v3), some (aI ((ishlF (2 : Int32) v3) - (1 : Int32))), some (aI (-1 : Int32)), some (aI (0 : Int32)), none, none]) dX2_oldest_11 (by decide) rfl ?_
  refine go_iconst (v := (0 : Int32)) dX2_oldest_13 rfl ?_
  refine go_istore (loc2 := [some (aA v0), some (aA v1), some (aI v2), some (aI v3), some (aI ((ishlF (2 : Int32) v3) - (1 : Int32))), some (aI (-1 : Int32)), some (aI (0 : Int32)), some (aI (0 : Int32)), none]) dX2_oldest_14 (by decide) rfl ?_
  refine go_mask [false, true, true, true, true, true, true, true, false] (loc' := [none, some (aA v1), some (aI v2), some (aI v3), some (aI ((ishlF (2 : Int32) v3) - (1 : Int32))), some (aI (-1 : Int32)), some (aI (0 : Int32)), some (aI (0 : Int32)), none]) rfl ?_
  exact okl_X2_oldest_16 v1 v2 v3 ((ishlF (2 : Int32) v3) - (1 : Int32)) h (-1 : Int32) (0 : Int32) (0 : Int32) H
/-! X0_hasPlace -/
def j_X0_hasPlace_28  (s0 : Int32) (h : Hp) : Option Int32 :=
  (zb s0).bind fun x1 => some x1
set_option maxRecDepth 20000 in
theorem okj_X0_hasPlace_28 {r : Int32}  (s0 : Int32) (h : Hp) (H : j_X0_hasPlace_28 s0 h = some r) : Go M_X0_hasPlace (some (aI r), h) 28 [none, none, none, none] [aI s0] h := by
  unfold j_X0_hasPlace_28 at H
  obtain ⟨hz, H⟩ := gm_zb H
  obtain rfl := Option.some.inj H
  exact go_ireturn (x := s0) dX0_hasPlace_28 (tyI_bool rfl hz)
def m_X0_hasPlace (v0 : Nat) (v1 : Int32) (v2 : Int32) (v3 : Int32) (h : Hp) : Option Int32 :=
  (rc h v0 1 (m_X0_hasVersion v0 v1 v2 h)).bind fun x1 => if x1 = 0 then j_X0_hasPlace_28 (0 : Int32) h else if v3 < 0 then j_X0_hasPlace_28 (0 : Int32) h else (rc h v0 1 (m_X0_lengthOf v0 v1 v2 h)).bind fun x2 => j_X0_hasPlace_28 (if x2 ≤ v3 then (0 : Int32) else (1 : Int32)) h
set_option maxRecDepth 20000 in
theorem ok_X0_hasPlace {r : Int32} {v0 : Nat} {v1 : Int32} {v2 : Int32} {v3 : Int32} {h : Hp} (H : m_X0_hasPlace v0 v1 v2 v3 h = some r) : Ev M_X0_hasPlace [aA v0, aI v1, aI v2, aI v3] h (some (aI r), h) := by
  show Go M_X0_hasPlace (some (aI r), h) 0 [some (aA v0), some (aI v1), some (aI v2), some (aI v3)] [] h
  unfold m_X0_hasPlace at H
  refine go_aloadn dX0_hasPlace_0 rfl ?_
  refine go_iloadn dX0_hasPlace_1 rfl ?_
  refine go_iloadn dX0_hasPlace_2 rfl ?_
  obtain ⟨c1, x1, ex1, H⟩ := gm_rc H
  refine go_callV (vs := [aI v1, aI v2]) (stk := []) (o1 := (some (aI x1), h)) mk_X0_hasVersion sv_X0_hasPlace_80 cl_X0 rfl dX0_hasPlace_3 c1 rfl rfl (Nat.le_of_ble_eq_true rfl) (Nat.le_of_ble_eq_true rfl) (ok_X0_hasVersion ex1) (show Go M_X0_hasPlace (some (aI r), h) 6 [some (aA v0), some (aI v1), some (aI v2), some (aI v3)] [aI x1] h from ?_)
  refine go_if_eq (tgt := 27) dX0_hasPlace_6 (by decide) (fun c2 => ?_) (fun c2 => ?_)
  · replace H := (gm_ite H).1 c2
    refine go_iconst (v := (0 : Int32)) dX0_hasPlace_27 rfl ?_
    refine go_mask [false, false, false, false] (loc' := [none, none, none, none]) rfl ?_
    exact okj_X0_hasPlace_28 (0 : Int32) h  H
  · replace H := (gm_ite H).2 c2
    refine go_iloadn dX0_hasPlace_9 rfl ?_
    refine go_if_lt (tgt := 27) dX0_hasPlace_10 (by decide) (fun c3 => ?_) (fun c3 => ?_)
    · replace H := (gm_ite H).1 c3
      refine go_iconst (v := (0 : Int32)) dX0_hasPlace_27 rfl ?_
      refine go_mask [false, false, false, false] (loc' := [none, none, none, none]) rfl ?_
      exact okj_X0_hasPlace_28 (0 : Int32) h  H
    · replace H := (gm_ite H).2 c3
      refine go_iloadn dX0_hasPlace_13 rfl ?_
      refine go_aloadn dX0_hasPlace_14 rfl ?_
      refine go_iloadn dX0_hasPlace_15 rfl ?_
      refine go_iloadn dX0_hasPlace_16 rfl ?_
      obtain ⟨c4, x2, ex2, H⟩ := gm_rc H
      refine go_callV (vs := [aI v1, aI v2]) (stk := [aI v3]) (o1 := (some (aI x2), h)) mk_X0_lengthOf sv_X0_hasPlace_84 cl_X0 rfl dX0_hasPlace_17 c4 rfl rfl (Nat.le_of_ble_eq_true rfl) (Nat.le_of_ble_eq_true rfl) (ok_X0_lengthOf ex2) (show Go M_X0_hasPlace (some (aI r), h) 20 [some (aA v0), some (aI v1), some (aI v2), some (aI v3)] [aI x2, aI v3] h from ?_)
      refine go_icmp_ge (tgt := 27) dX0_hasPlace_20 (by decide) (fun c5 => ?_) (fun c5 => ?_)
      · rw [if_pos c5] at H
        refine go_iconst (v := (0 : Int32)) dX0_hasPlace_27 rfl ?_
        refine go_mask [false, false, false, false] (loc' := [none, none, none, none]) rfl ?_
        exact okj_X0_hasPlace_28 (0 : Int32) h  H
      · rw [if_neg c5] at H
        refine go_iconst (v := (1 : Int32)) dX0_hasPlace_23 rfl ?_
        refine go_goto (tgt := 28) dX0_hasPlace_24 (by decide) ?_
        refine go_mask [false, false, false, false] (loc' := [none, none, none, none]) rfl ?_
        exact okj_X0_hasPlace_28 (1 : Int32) h  H
/-! X5_wordNumber -/
def j_X5_wordNumber_21 (v1 : Int32) (v2 : Int32)  (h : Hp) (k : Int32 → Int32 → Option Int32) : Option Int32 :=
  k v1 (v2 + (1 : Int32))
set_option maxRecDepth 20000 in
theorem okj_X5_wordNumber_21 {r : Int32} (v1 : Int32) (v2 : Int32)  (h : Hp) (k : Int32 → Int32 → Option Int32) (Hk : ∀ (v1q : Int32) (v2q : Int32), k v1q v2q = some r → Go M_X5_wordNumber (some (aI r), h) 4 [none, some (aI v1q), some (aI v2q)] [] h) (H : j_X5_wordNumber_21 v1 v2 h k = some r) : Go M_X5_wordNumber (some (aI r), h) 21 [none, some (aI v1), some (aI v2)] [] h := by
  unfold j_X5_wordNumber_21 at H
  refine go_iinc (v := (v2 + (1 : Int32))) (loc2 := [none, some (aI v1), some (aI (v2 + (1 : Int32)))]) dX5_wordNumber_21 rfl rfl (by decide) rfl ?_
  refine go_goto (tgt := 4) dX5_wordNumber_24 (by decide) ?_
  exact Hk v1 (v2 + (1 : Int32)) H
def b_X5_wordNumber_4  (h : Hp) (k : Int32 → Int32 → Option Int32) (v1 : Int32) (v2 : Int32) : Option Int32 :=
  if (4 : Int32) ≤ v2 then (some v1) else if ¬ (iremF v1 (27 : Int32)) = 0 then j_X5_wordNumber_21 v1 v2 h k else j_X5_wordNumber_21 (v1 / (27 : Int32)) v2 h k
set_option maxRecDepth 20000 in
theorem okb_X5_wordNumber_4 {r : Int32}  (h : Hp) (k : Int32 → Int32 → Option Int32) (v1 : Int32) (v2 : Int32) (Hk : ∀ (v1q : Int32) (v2q : Int32), k v1q v2q = some r → Go M_X5_wordNumber (some (aI r), h) 4 [none, some (aI v1q), some (aI v2q)] [] h) (H : b_X5_wordNumber_4 h k v1 v2 = some r) : Go M_X5_wordNumber (some (aI r), h) 4 [none, some (aI v1), some (aI v2)] [] h := by
  unfold b_X5_wordNumber_4 at H
  refine go_iloadn dX5_wordNumber_4 rfl ?_
  refine go_iconst (v := (4 : Int32)) dX5_wordNumber_5 rfl ?_
  refine go_icmp_ge (tgt := 27) dX5_wordNumber_6 (by decide) (fun c1 => ?_) (fun c1 => ?_)
  · replace H := (gm_ite H).1 c1
    refine go_iloadn dX5_wordNumber_27 rfl ?_
    obtain rfl := Option.some.inj H
    exact go_ireturn dX5_wordNumber_28 (tyI_int rfl)
  · replace H := (gm_ite H).2 c1
    refine go_iloadn dX5_wordNumber_9 rfl ?_
    refine go_bipush (v := (27 : Int32)) dX5_wordNumber_10 rfl ?_
    refine go_irem dX5_wordNumber_12 (by decide) ?_
    refine go_if_ne (tgt := 21) dX5_wordNumber_13 (by decide) (fun c2 => ?_) (fun c2 => ?_)
    · replace H := (gm_ite H).1 c2
      exact okj_X5_wordNumber_21 v1 v2 h k Hk H
    · replace H := (gm_ite H).2 c2
      refine go_iloadn dX5_wordNumber_16 rfl ?_
      refine go_bipush (v := (27 : Int32)) dX5_wordNumber_17 rfl ?_
      refine go_idiv dX5_wordNumber_19 (by decide) ?_
      refine go_istoren (loc2 := [none, some (aI (v1 / (27 : Int32))), some (aI v2)]) dX5_wordNumber_20 rfl (by decide) rfl ?_
      exact okj_X5_wordNumber_21 (v1 / (27 : Int32)) v2 h k Hk H
def l_X5_wordNumber_4  (h : Hp) (v1 : Int32) (v2 : Int32) : Option Int32 := loopK FUEL (fun (k : Int32 × Int32 → Option Int32) (s : Int32 × Int32) => b_X5_wordNumber_4 h (fun v1q v2q => k (v1q, v2q)) s.1 s.2) (v1, v2)
theorem okl_X5_wordNumber_4 {r : Int32}  (h : Hp) (v1 : Int32) (v2 : Int32) (H : l_X5_wordNumber_4 h v1 v2 = some r) : Go M_X5_wordNumber (some (aI r), h) 4 [none, some (aI v1), some (aI v2)] [] h := by
  unfold l_X5_wordNumber_4 at H
  exact go_loop (σ := Int32 × Int32) (body := (fun (k : Int32 × Int32 → Option Int32) (s : Int32 × Int32) => b_X5_wordNumber_4 h (fun v1q v2q => k (v1q, v2q)) s.1 s.2)) (fun s => [none, some (aI s.1), some (aI s.2)]) (fun s => h) (fun k s Hk H => okb_X5_wordNumber_4 h (fun v1q v2q => k (v1q, v2q)) s.1 s.2  (fun v1q v2q H => Hk (v1q, v2q) H) H) FUEL (v1, v2) H
def m_X5_wordNumber (v0 : Int32) (h : Hp) : Option Int32 :=
  l_X5_wordNumber_4 h v0 (1 : Int32)
set_option maxRecDepth 20000 in
theorem ok_X5_wordNumber {r : Int32} {v0 : Int32} {h : Hp} (H : m_X5_wordNumber v0 h = some r) : Ev M_X5_wordNumber [aI v0] h (some (aI r), h) := by
  show Go M_X5_wordNumber (some (aI r), h) 0 [some (aI v0), none, none] [] h
  unfold m_X5_wordNumber at H
  refine go_iloadn dX5_wordNumber_0 rfl ?_
  refine go_istoren (loc2 := [some (aI v0), some (aI v0), none]) dX5_wordNumber_1 rfl (by decide) rfl ?_
  refine go_iconst (v := (1 : Int32)) dX5_wordNumber_2 rfl ?_
  refine go_istoren (loc2 := [some (aI v0), some (aI v0), some (aI (1 : Int32))]) dX5_wordNumber_3 rfl (by decide) rfl ?_
  refine go_mask [false, true, true] (loc' := [none, some (aI v0), some (aI (1 : Int32))]) rfl ?_
  exact okl_X5_wordNumber_4 h v0 (1 : Int32) H
/-! X0_wordNumberAt -/
def j_X0_wordNumberAt_24  (s0 : Int32) (h : Hp) : Option Int32 :=
  some s0
set_option maxRecDepth 20000 in
theorem okj_X0_wordNumberAt_24 {r : Int32}  (s0 : Int32) (h : Hp) (H : j_X0_wordNumberAt_24 s0 h = some r) : Go M_X0_wordNumberAt (some (aI r), h) 24 [none, none, none, none] [aI s0] h := by
  unfold j_X0_wordNumberAt_24 at H
  obtain rfl := Option.some.inj H
  exact go_ireturn dX0_wordNumberAt_24 (tyI_int rfl)
def m_X0_wordNumberAt (v0 : Nat) (v1 : Int32) (v2 : Int32) (v3 : Int32) (h : Hp) : Option Int32 :=
  (rc h v0 1 (m_X0_hasPlace v0 v1 v2 v3 h)).bind fun x1 => if x1 = 0 then j_X0_wordNumberAt_24 (-1 : Int32) h else (rc h v0 1 (m_X0_spellingAt v0 v1 v2 v3 h)).bind fun x2 => (m_X5_wordNumber x2 h).bind fun x3 => j_X0_wordNumberAt_24 x3 h
set_option maxRecDepth 20000 in
theorem ok_X0_wordNumberAt {r : Int32} {v0 : Nat} {v1 : Int32} {v2 : Int32} {v3 : Int32} {h : Hp} (H : m_X0_wordNumberAt v0 v1 v2 v3 h = some r) : Ev M_X0_wordNumberAt [aA v0, aI v1, aI v2, aI v3] h (some (aI r), h) := by
  show Go M_X0_wordNumberAt (some (aI r), h) 0 [some (aA v0), some (aI v1), some (aI v2), some (aI v3)] [] h
  unfold m_X0_wordNumberAt at H
  refine go_aloadn dX0_wordNumberAt_0 rfl ?_
  refine go_iloadn dX0_wordNumberAt_1 rfl ?_
  refine go_iloadn dX0_wordNumberAt_2 rfl ?_
  refine go_iloadn dX0_wordNumberAt_3 rfl ?_
  obtain ⟨c1, x1, ex1, H⟩ := gm_rc H
  refine go_callV (vs := [aI v1, aI v2, aI v3]) (stk := []) (o1 := (some (aI x1), h)) mk_X0_hasPlace sv_X0_wordNumberAt_94 cl_X0 rfl dX0_wordNumberAt_4 c1 rfl rfl (Nat.le_of_ble_eq_true rfl) (Nat.le_of_ble_eq_true rfl) (ok_X0_hasPlace ex1) (show Go M_X0_wordNumberAt (some (aI r), h) 7 [some (aA v0), some (aI v1), some (aI v2), some (aI v3)] [aI x1] h from ?_)
  refine go_if_eq (tgt := 23) dX0_wordNumberAt_7 (by decide) (fun c2 => ?_) (fun c2 => ?_)
  · replace H := (gm_ite H).1 c2
    refine go_iconst (v := (-1 : Int32)) dX0_wordNumberAt_23 rfl ?_
    refine go_mask [false, false, false, false] (loc' := [none, none, none, none]) rfl ?_
    exact okj_X0_wordNumberAt_24 (-1 : Int32) h  H
  · replace H := (gm_ite H).2 c2
    refine go_aloadn dX0_wordNumberAt_10 rfl ?_
    refine go_iloadn dX0_wordNumberAt_11 rfl ?_
    refine go_iloadn dX0_wordNumberAt_12 rfl ?_
    refine go_iloadn dX0_wordNumberAt_13 rfl ?_
    obtain ⟨c3, x2, ex2, H⟩ := gm_rc H
    refine go_callV (vs := [aI v1, aI v2, aI v3]) (stk := []) (o1 := (some (aI x2), h)) mk_X0_spellingAt sv_X0_wordNumberAt_98 cl_X0 rfl dX0_wordNumberAt_14 c3 rfl rfl (Nat.le_of_ble_eq_true rfl) (Nat.le_of_ble_eq_true rfl) (ok_X0_spellingAt ex2) (show Go M_X0_wordNumberAt (some (aI r), h) 17 [some (aA v0), some (aI v1), some (aI v2), some (aI v3)] [aI x2] h from ?_)
    obtain ⟨x3, ex3, H⟩ := bind_some H
    refine go_callS (vs := [aI x2]) (stk := []) (o1 := (some (aI x3), h)) mk_X5_wordNumber ss_X0_wordNumberAt_102 dX0_wordNumberAt_17 rfl rfl (Nat.le_of_ble_eq_true rfl) (Nat.le_of_ble_eq_true rfl) (ok_X5_wordNumber ex3) (show Go M_X0_wordNumberAt (some (aI r), h) 20 [some (aA v0), some (aI v1), some (aI v2), some (aI v3)] [aI x3] h from ?_)
    refine go_goto (tgt := 24) dX0_wordNumberAt_20 (by decide) ?_
    refine go_mask [false, false, false, false] (loc' := [none, none, none, none]) rfl ?_
    exact okj_X0_wordNumberAt_24 x3 h  H
/-! X11_version -/
def j_X11_version_155  (s0 : Int32) (h : Hp) : Option Int32 :=
  some s0
set_option maxRecDepth 20000 in
theorem okj_X11_version_155 {r : Int32}  (s0 : Int32) (h : Hp) (H : j_X11_version_155 s0 h = some r) : Go M_X11_version (some (aI r), h) 155 [none, none, none, none, none, none] [aI s0] h := by
  unfold j_X11_version_155 at H
  obtain rfl := Option.some.inj H
  exact go_ireturn dX11_version_155 (tyI_int rfl)
def m_X11_version (v0 : Nat) (v1 : Int32) (v2 : Int32) (v3 : Int32) (v4 : Int32) (h : Hp) : Option Int32 :=
  (gfR h v0 11 0).bind fun x1 => (rc h x1 9 (m_X9_archiveAt x1 v1 h)).bind fun x2 => (nz x2).bind fun _ => if x2 = 0 then (some (-1 : Int32)) else (rc h x2 1 (m_X0_hasVersion x2 v2 v3 h)).bind fun x3 => if ¬ x3 = 0 then (if v4 = (0 : Int32) then ((rc h x2 1 (m_X0_lengthOf x2 v2 v3 h)).bind fun x4 => some x4) else if v4 = (1 : Int32) then ((rc h x2 1 (m_X0_dateOf x2 v2 v3 h)).bind fun x5 => some x5) else if v4 = (2 : Int32) then ((gfR h v0 11 3).bind fun x6 => (rc h x6 3 (m_X2_fresh x6 x2 v2 v3 h)).bind fun x7 => some x7) else if v4 = (3 : Int32) then ((gfR h v0 11 3).bind fun x8 => (rc h x8 3 (m_X2_lost x8 x2 v2 v3 h)).bind fun x9 => some x9) else if v4 = (4 : Int32) then ((gfR h v0 11 3).bind fun x10 => (rc h x10 3 (m_X2_turned x10 x2 v2 v3 h)).bind fun x11 => some x11) else if v4 = (5 : Int32) then ((gfR h v0 11 3).bind fun x12 => (rc h x12 3 (m_X2_oldest x12 x2 v2 v3 h)).bind fun x13 => some x13) else if v4 < (10 : Int32) then j_X11_version_155 (-1 : Int32) h else (rc h x2 1 (m_X0_wordNumberAt x2 v2 v3 (v4 - (10 : Int32)) h)).bind fun x14 => j_X11_version_155 x14 h) else some (-1 : Int32)
set_option maxRecDepth 20000 in
theorem ok_X11_version {r : Int32} {v0 : Nat} {v1 : Int32} {v2 : Int32} {v3 : Int32} {v4 : Int32} {h : Hp} (H : m_X11_version v0 v1 v2 v3 v4 h = some r) : Ev M_X11_version [aA v0, aI v1, aI v2, aI v3, aI v4] h (some (aI r), h) := by
  show Go M_X11_version (some (aI r), h) 0 [some (aA v0), some (aI v1), some (aI v2), some (aI v3), some (aI v4), none] [] h
  unfold m_X11_version at H
  refine go_aloadn dX11_version_0 rfl ?_
  refine gm_getR fd_X11_10 dX11_version_1 H (fun x1 H => ?_)
  refine go_iloadn dX11_version_4 rfl ?_
  obtain ⟨c1, x2, ex2, H⟩ := gm_rc H
  refine go_callV (vs := [aI v1]) (stk := []) (o1 := (some (aA x2), h)) mk_X9_archiveAt sv_X11_version_86 cl_X9 rfl dX11_version_5 c1 rfl rfl (Nat.le_of_ble_eq_true rfl) (Nat.le_of_ble_eq_true rfl) (ok_X9_archiveAt ex2) (show Go M_X11_version (some (aI r), h) 8 [some (aA v0), some (aI v1), some (aI v2), some (aI v3), some (aI v4), none] [aA x2] h from ?_)
  refine go_astore (loc2 := [some (aA v0), some (aI v1), some (aI v2), some (aI v3), some (aI v4), some (aA x2)]) dX11_version_8 (by decide) rfl ?_
  refine go_aload dX11_version_10 rfl ?_
  obtain ⟨c3, H⟩ := gm_nz H
  refine go_ifnull (tgt := 25) dX11_version_12 (by decide) c3 (fun c2 => ?_) (fun c2 => ?_)
  · replace H := (gm_ite H).1 c2
    refine go_iconst (v := (-1 : Int32)) dX11_version_25 rfl ?_
    obtain rfl := Option.some.inj H
    exact go_ireturn dX11_version_26 (tyI_int rfl)
  · replace H := (gm_ite H).2 c2
    refine go_aload dX11_version_15 rfl ?_
    refine go_iloadn dX11_version_17 rfl ?_
    refine go_iloadn dX11_version_18 rfl ?_
    obtain ⟨c4, x3, ex3, H⟩ := gm_rc H
    refine go_callV (vs := [aI v2, aI v3]) (stk := []) (o1 := (some (aI x3), h)) mk_X0_hasVersion sv_X11_version_140 cl_X0 rfl dX11_version_19 c4 rfl rfl (Nat.le_of_ble_eq_true rfl) (Nat.le_of_ble_eq_true rfl) (ok_X0_hasVersion ex3) (show Go M_X11_version (some (aI r), h) 22 [some (aA v0), some (aI v1), some (aI v2), some (aI v3), some (aI v4), some (aA x2)] [aI x3] h from ?_)
    refine go_if_ne (tgt := 27) dX11_version_22 (by decide) (fun c5 => ?_) (fun c5 => ?_)
    · replace H := (gm_ite H).1 c5
      refine go_iload dX11_version_27 rfl ?_
      by_cases c6 : v4 = (0 : Int32)
      · replace H := (gm_ite H).1 c6
        refine go_eqI c6 ?_
        refine go_tableIn (tgt := 68) dX11_version_29 (by decide) (by decide) rfl (by decide) ?_
        refine go_aload dX11_version_68 rfl ?_
        refine go_iloadn dX11_version_70 rfl ?_
        refine go_iloadn dX11_version_71 rfl ?_
        obtain ⟨c7, x4, ex4, H⟩ := gm_rc H
        refine go_callV (vs := [aI v2, aI v3]) (stk := []) (o1 := (some (aI x4), h)) mk_X0_lengthOf sv_X11_version_144 cl_X0 rfl dX11_version_72 c7 rfl rfl (Nat.le_of_ble_eq_true rfl) (Nat.le_of_ble_eq_true rfl) (ok_X0_lengthOf ex4) (show Go M_X11_version (some (aI r), h) 75 [some (aA v0), some (aI v1), some (aI v2), some (aI v3), some (aI v4), some (aA x2)] [aI x4] h from ?_)
        obtain rfl := Option.some.inj H
        exact go_ireturn dX11_version_75 (tyI_int rfl)
      · replace H := (gm_ite H).2 c6
        by_cases c8 : v4 = (1 : Int32)
        · replace H := (gm_ite H).1 c8
          refine go_eqI c8 ?_
          refine go_tableIn (tgt := 76) dX11_version_29 (by decide) (by decide) rfl (by decide) ?_
          refine go_aload dX11_version_76 rfl ?_
          refine go_iloadn dX11_version_78 rfl ?_
          refine go_iloadn dX11_version_79 rfl ?_
          obtain ⟨c9, x5, ex5, H⟩ := gm_rc H
          refine go_callV (vs := [aI v2, aI v3]) (stk := []) (o1 := (some (aI x5), h)) mk_X0_dateOf sv_X11_version_147 cl_X0 rfl dX11_version_80 c9 rfl rfl (Nat.le_of_ble_eq_true rfl) (Nat.le_of_ble_eq_true rfl) (ok_X0_dateOf ex5) (show Go M_X11_version (some (aI r), h) 83 [some (aA v0), some (aI v1), some (aI v2), some (aI v3), some (aI v4), some (aA x2)] [aI x5] h from ?_)
          obtain rfl := Option.some.inj H
          exact go_ireturn dX11_version_83 (tyI_int rfl)
        · replace H := (gm_ite H).2 c8
          by_cases c10 : v4 = (2 : Int32)
          · replace H := (gm_ite H).1 c10
            refine go_eqI c10 ?_
            refine go_tableIn (tgt := 84) dX11_version_29 (by decide) (by decide) rfl (by decide) ?_
            refine go_aloadn dX11_version_84 rfl ?_
            refine gm_getR fd_X11_30 dX11_version_85 H (fun x6 H => ?_)
            refine go_aload dX11_version_88 rfl ?_
            refine go_iloadn dX11_version_90 rfl ?_
            refine go_iloadn dX11_version_91 rfl ?_
            obtain ⟨c11, x7, ex7, H⟩ := gm_rc H
            refine go_callV (vs := [aA x2, aI v2, aI v3]) (stk := []) (o1 := (some (aI x7), h)) mk_X2_fresh sv_X11_version_150 cl_X2 rfl dX11_version_92 c11 rfl rfl (Nat.le_of_ble_eq_true rfl) (Nat.le_of_ble_eq_true rfl) (ok_X2_fresh ex7) (show Go M_X11_version (some (aI r), h) 95 [some (aA v0), some (aI v1), some (aI v2), some (aI v3), some (aI v4), some (aA x2)] [aI x7] h from ?_)
            obtain rfl := Option.some.inj H
            exact go_ireturn dX11_version_95 (tyI_int rfl)
          · replace H := (gm_ite H).2 c10
            by_cases c12 : v4 = (3 : Int32)
            · replace H := (gm_ite H).1 c12
              refine go_eqI c12 ?_
              refine go_tableIn (tgt := 96) dX11_version_29 (by decide) (by decide) rfl (by decide) ?_
              refine go_aloadn dX11_version_96 rfl ?_
              refine gm_getR fd_X11_30 dX11_version_97 H (fun x8 H => ?_)
              refine go_aload dX11_version_100 rfl ?_
              refine go_iloadn dX11_version_102 rfl ?_
              refine go_iloadn dX11_version_103 rfl ?_
              obtain ⟨c13, x9, ex9, H⟩ := gm_rc H
              refine go_callV (vs := [aA x2, aI v2, aI v3]) (stk := []) (o1 := (some (aI x9), h)) mk_X2_lost sv_X11_version_154 cl_X2 rfl dX11_version_104 c13 rfl rfl (Nat.le_of_ble_eq_true rfl) (Nat.le_of_ble_eq_true rfl) (ok_X2_lost ex9) (show Go M_X11_version (some (aI r), h) 107 [some (aA v0), some (aI v1), some (aI v2), some (aI v3), some (aI v4), some (aA x2)] [aI x9] h from ?_)
              obtain rfl := Option.some.inj H
              exact go_ireturn dX11_version_107 (tyI_int rfl)
            · replace H := (gm_ite H).2 c12
              by_cases c14 : v4 = (4 : Int32)
              · replace H := (gm_ite H).1 c14
                refine go_eqI c14 ?_
                refine go_tableIn (tgt := 108) dX11_version_29 (by decide) (by decide) rfl (by decide) ?_
                refine go_aloadn dX11_version_108 rfl ?_
                refine gm_getR fd_X11_30 dX11_version_109 H (fun x10 H => ?_)
                refine go_aload dX11_version_112 rfl ?_
                refine go_iloadn dX11_version_114 rfl ?_
                refine go_iloadn dX11_version_115 rfl ?_
                obtain ⟨c15, x11, ex11, H⟩ := gm_rc H
                refine go_callV (vs := [aA x2, aI v2, aI v3]) (stk := []) (o1 := (some (aI x11), h)) mk_X2_turned sv_X11_version_157 cl_X2 rfl dX11_version_116 c15 rfl rfl (Nat.le_of_ble_eq_true rfl) (Nat.le_of_ble_eq_true rfl) (ok_X2_turned ex11) (show Go M_X11_version (some (aI r), h) 119 [some (aA v0), some (aI v1), some (aI v2), some (aI v3), some (aI v4), some (aA x2)] [aI x11] h from ?_)
                obtain rfl := Option.some.inj H
                exact go_ireturn dX11_version_119 (tyI_int rfl)
              · replace H := (gm_ite H).2 c14
                by_cases c16 : v4 = (5 : Int32)
                · replace H := (gm_ite H).1 c16
                  refine go_eqI c16 ?_
                  refine go_tableIn (tgt := 120) dX11_version_29 (by decide) (by decide) rfl (by decide) ?_
                  refine go_aloadn dX11_version_120 rfl ?_
                  refine gm_getR fd_X11_30 dX11_version_121 H (fun x12 H => ?_)
                  refine go_aload dX11_version_124 rfl ?_
                  refine go_iloadn dX11_version_126 rfl ?_
                  refine go_iloadn dX11_version_127 rfl ?_
                  obtain ⟨c17, x13, ex13, H⟩ := gm_rc H
                  refine go_callV (vs := [aA x2, aI v2, aI v3]) (stk := []) (o1 := (some (aI x13), h)) mk_X2_oldest sv_X11_version_160 cl_X2 rfl dX11_version_128 c17 rfl rfl (Nat.le_of_ble_eq_true rfl) (Nat.le_of_ble_eq_true rfl) (ok_X2_oldest ex13) (show Go M_X11_version (some (aI r), h) 131 [some (aA v0), some (aI v1), some (aI v2), some (aI v3), some (aI v4), some (aA x2)] [aI x13] h from ?_)
                  obtain rfl := Option.some.inj H
                  exact go_ireturn dX11_version_131 (tyI_int rfl)
                · replace H := (gm_ite H).2 c16
                  refine go_tableOut (tgt := 132) dX11_version_29 (sw_out (fun i h1 h2 e => ?_)) (by decide) ?_
                  · have h3 : i = 0 ∨ i = 1 ∨ i = 2 ∨ i = 3 ∨ i = 4 ∨ i = 5 := by omega
                    rcases h3 with rfl | rfl | rfl | rfl | rfl | rfl
                    · exact sw_ne c6 (by decide) e
                    · exact sw_ne c8 (by decide) e
                    · exact sw_ne c10 (by decide) e
                    · exact sw_ne c12 (by decide) e
                    · exact sw_ne c14 (by decide) e
                    · exact sw_ne c16 (by decide) e
                  · skip
                    refine go_iload dX11_version_132 rfl ?_
                    refine go_bipush (v := (10 : Int32)) dX11_version_134 rfl ?_
                    refine go_icmp_lt (tgt := 154) dX11_version_136 (by decide) (fun c18 => ?_) (fun c18 => ?_)
                    · replace H := (gm_ite H).1 c18
                      refine go_iconst (v := (-1 : Int32)) dX11_version_154 rfl ?_
                      refine go_mask [false, false, false, false, false, false] (loc' := [none, none, none, none, none, none]) rfl ?_
                      exact okj_X11_version_155 (-1 : Int32) h  H
                    · replace H := (gm_ite H).2 c18
                      refine go_aload dX11_version_139 rfl ?_
                      refine go_iloadn dX11_version_141 rfl ?_
                      refine go_iloadn dX11_version_142 rfl ?_
                      refine go_iload dX11_version_143 rfl ?_
                      refine go_bipush (v := (10 : Int32)) dX11_version_145 rfl ?_
                      refine go_isub dX11_version_147 ?_
                      obtain ⟨c19, x14, ex14, H⟩ := gm_rc H
                      refine go_callV (vs := [aI v2, aI v3, aI (v4 - (10 : Int32))]) (stk := []) (o1 := (some (aI x14), h)) mk_X0_wordNumberAt sv_X11_version_163 cl_X0 rfl dX11_version_148 c19 rfl rfl (Nat.le_of_ble_eq_true rfl) (Nat.le_of_ble_eq_true rfl) (ok_X0_wordNumberAt ex14) (show Go M_X11_version (some (aI r), h) 151 [some (aA v0), some (aI v1), some (aI v2), some (aI v3), some (aI v4), some (aA x2)] [aI x14] h from ?_)
                      refine go_goto (tgt := 155) dX11_version_151 (by decide) ?_
                      refine go_mask [false, false, false, false, false, false] (loc' := [none, none, none, none, none, none]) rfl ?_
                      exact okj_X11_version_155 x14 h  H
    · replace H := (gm_ite H).2 c5
      refine go_iconst (v := (-1 : Int32)) dX11_version_25 rfl ?_
      obtain rfl := Option.some.inj H
      exact go_ireturn dX11_version_26 (tyI_int rfl)
/-! X12_fresh -/
def j_X12_fresh_43 (v0 : Nat) (v1 : Int32) (v2 : Int32) (v4 : Int32) (s0 : Int32) (s1 : Int32) (h : Hp) (k : Int32 → Int32 → Option Int32) : Option Int32 :=
  k (s0 + s1) (v4 + (1 : Int32))
set_option maxRecDepth 20000 in
theorem okj_X12_fresh_43 {r : Int32} (v0 : Nat) (v1 : Int32) (v2 : Int32) (v4 : Int32) (s0 : Int32) (s1 : Int32) (h : Hp) (k : Int32 → Int32 → Option Int32) (Hk : ∀ (v3q : Int32) (v4q : Int32), k v3q v4q = some r → Go M_X12_fresh (some (aI r), h) 5 [some (aA v0), some (aI v1), some (aI v2), some (aI v3q), some (aI v4q)] [] h) (H : j_X12_fresh_43 v0 v1 v2 v4 s0 s1 h k = some r) : Go M_X12_fresh (some (aI r), h) 43 [some (aA v0), some (aI v1), some (aI v2), none, some (aI v4)] [aI s1, aI s0] h := by
  unfold j_X12_fresh_43 at H
  refine go_iadd dX12_fresh_43 ?_
  refine go_istoren (loc2 := [some (aA v0), some (aI v1), some (aI v2), some (aI (s0 + s1)), some (aI v4)]) dX12_fresh_44 rfl (by decide) rfl ?_
  refine go_iinc (v := (v4 + (1 : Int32))) (loc2 := [some (aA v0), some (aI v1), some (aI v2), some (aI (s0 + s1)), some (aI (v4 + (1 : Int32)))]) dX12_fresh_45 rfl rfl (by decide) rfl ?_
  refine go_goto (tgt := 5) dX12_fresh_48 (by decide) ?_
  exact Hk (s0 + s1) (v4 + (1 : Int32)) H
def b_X12_fresh_5 (v0 : Nat) (v1 : Int32) (v2 : Int32) (h : Hp) (k : Int32 → Int32 → Option Int32) (v3 : Int32) (v4 : Int32) : Option Int32 :=
  (rc h v0 12 (m_X12_longOf v0 v1 v2 h)).bind fun x1 => if x1 ≤ v4 then (some v3) else (rc h v0 12 (m_X12_tokenAt v0 v1 v2 v4 h)).bind fun x2 => (rc h v0 12 (m_X12_whereIs v0 x2 h)).bind fun x3 => j_X12_fresh_43 v0 v1 v2 v4 v3 (if ¬ (x3 &&& ((ishlF (1 : Int32) v2) - (1 : Int32))) = 0 then (0 : Int32) else (1 : Int32)) h k
set_option maxRecDepth 20000 in
theorem okb_X12_fresh_5 {r : Int32} (v0 : Nat) (v1 : Int32) (v2 : Int32) (h : Hp) (k : Int32 → Int32 → Option Int32) (v3 : Int32) (v4 : Int32) (Hk : ∀ (v3q : Int32) (v4q : Int32), k v3q v4q = some r → Go M_X12_fresh (some (aI r), h) 5 [some (aA v0), some (aI v1), some (aI v2), some (aI v3q), some (aI v4q)] [] h) (H : b_X12_fresh_5 v0 v1 v2 h k v3 v4 = some r) : Go M_X12_fresh (some (aI r), h) 5 [some (aA v0), some (aI v1), some (aI v2), some (aI v3), some (aI v4)] [] h := by
  unfold b_X12_fresh_5 at H
  refine go_iload dX12_fresh_5 rfl ?_
  refine go_aloadn dX12_fresh_7 rfl ?_
  refine go_iloadn dX12_fresh_8 rfl ?_
  refine go_iloadn dX12_fresh_9 rfl ?_
  obtain ⟨c1, x1, ex1, H⟩ := gm_rc H
  refine go_callV (vs := [aI v1, aI v2]) (stk := [aI v4]) (o1 := (some (aI x1), h)) mk_X12_longOf sv_X12_fresh_269 cl_X12 rfl dX12_fresh_10 c1 rfl rfl (Nat.le_of_ble_eq_true rfl) (Nat.le_of_ble_eq_true rfl) (ok_X12_longOf ex1) (show Go M_X12_fresh (some (aI r), h) 13 [some (aA v0), some (aI v1), some (aI v2), some (aI v3), some (aI v4)] [aI x1, aI v4] h from ?_)
  refine go_icmp_ge (tgt := 51) dX12_fresh_13 (by decide) (fun c2 => ?_) (fun c2 => ?_)
  · replace H := (gm_ite H).1 c2
    refine go_iloadn dX12_fresh_51 rfl ?_
    obtain rfl := Option.some.inj H
    exact go_ireturn dX12_fresh_52 (tyI_int rfl)
  · replace H := (gm_ite H).2 c2
    refine go_iloadn dX12_fresh_16 rfl ?_
    refine go_aloadn dX12_fresh_17 rfl ?_
    refine go_aloadn dX12_fresh_18 rfl ?_
    refine go_iloadn dX12_fresh_19 rfl ?_
    refine go_iloadn dX12_fresh_20 rfl ?_
    refine go_iload dX12_fresh_21 rfl ?_
    obtain ⟨c3, x2, ex2, H⟩ := gm_rc H
    refine go_callV (vs := [aI v1, aI v2, aI v4]) (stk := [aA v0, aI v3]) (o1 := (some (aI x2), h)) mk_X12_tokenAt sv_X12_fresh_262 cl_X12 rfl dX12_fresh_23 c3 rfl rfl (Nat.le_of_ble_eq_true rfl) (Nat.le_of_ble_eq_true rfl) (ok_X12_tokenAt ex2) (show Go M_X12_fresh (some (aI r), h) 26 [some (aA v0), some (aI v1), some (aI v2), some (aI v3), some (aI v4)] [aI x2, aA v0, aI v3] h from ?_)
    obtain ⟨c4, x3, ex3, H⟩ := gm_rc H
    refine go_callV (vs := [aI x2]) (stk := [aI v3]) (o1 := (some (aI x3), h)) mk_X12_whereIs sv_X12_fresh_278 cl_X12 rfl dX12_fresh_26 c4 rfl rfl (Nat.le_of_ble_eq_true rfl) (Nat.le_of_ble_eq_true rfl) (ok_X12_whereIs ex3) (show Go M_X12_fresh (some (aI r), h) 29 [some (aA v0), some (aI v1), some (aI v2), some (aI v3), some (aI v4)] [aI x3, aI v3] h from ?_)
    refine go_iconst (v := (1 : Int32)) dX12_fresh_29 rfl ?_
    refine go_iloadn dX12_fresh_30 rfl ?_
    refine go_ishl dX12_fresh_31 ?_
    refine go_iconst (v := (1 : Int32)) dX12_fresh_32 rfl ?_
    refine go_isub dX12_fresh_33 ?_
    refine go_iand dX12_fresh_34 ?_
    refine go_if_ne (tgt := 42) dX12_fresh_35 (by decide) (fun c5 => ?_) (fun c5 => ?_)
    · rw [if_pos c5] at H
      refine go_iconst (v := (0 : Int32)) dX12_fresh_42 rfl ?_
      refine go_mask [true, true, true, false, true] (loc' := [some (aA v0), some (aI v1), some (aI v2), none, some (aI v4)]) rfl ?_
      exact okj_X12_fresh_43 v0 v1 v2 v4 v3 (0 : Int32) h k Hk H
    · rw [if_neg c5] at H
      refine go_iconst (v := (1 : Int32)) dX12_fresh_38 rfl ?_
      refine go_goto (tgt := 43) dX12_fresh_39 (by decide) ?_
      refine go_mask [true, true, true, false, true] (loc' := [some (aA v0), some (aI v1), some (aI v2), none, some (aI v4)]) rfl ?_
      exact okj_X12_fresh_43 v0 v1 v2 v4 v3 (1 : Int32) h k Hk H
def l_X12_fresh_5 (v0 : Nat) (v1 : Int32) (v2 : Int32) (h : Hp) (v3 : Int32) (v4 : Int32) : Option Int32 := loopK FUEL (fun (k : Int32 × Int32 → Option Int32) (s : Int32 × Int32) => b_X12_fresh_5 v0 v1 v2 h (fun v3q v4q => k (v3q, v4q)) s.1 s.2) (v3, v4)
theorem okl_X12_fresh_5 {r : Int32} (v0 : Nat) (v1 : Int32) (v2 : Int32) (h : Hp) (v3 : Int32) (v4 : Int32) (H : l_X12_fresh_5 v0 v1 v2 h v3 v4 = some r) : Go M_X12_fresh (some (aI r), h) 5 [some (aA v0), some (aI v1), some (aI v2), some (aI v3), some (aI v4)] [] h := by
  unfold l_X12_fresh_5 at H
  exact go_loop (σ := Int32 × Int32) (body := (fun (k : Int32 × Int32 → Option Int32) (s : Int32 × Int32) => b_X12_fresh_5 v0 v1 v2 h (fun v3q v4q => k (v3q, v4q)) s.1 s.2)) (fun s => [some (aA v0), some (aI v1), some (aI v2), some (aI s.1), some (aI s.2)]) (fun s => h) (fun k s Hk H => okb_X12_fresh_5 v0 v1 v2 h (fun v3q v4q => k (v3q, v4q)) s.1 s.2  (fun v3q v4q H => Hk (v3q, v4q) H) H) FUEL (v3, v4) H
def m_X12_fresh (v0 : Nat) (v1 : Int32) (v2 : Int32) (h : Hp) : Option Int32 :=
  l_X12_fresh_5 v0 v1 v2 h (0 : Int32) (0 : Int32)
set_option maxRecDepth 20000 in
theorem ok_X12_fresh {r : Int32} {v0 : Nat} {v1 : Int32} {v2 : Int32} {h : Hp} (H : m_X12_fresh v0 v1 v2 h = some r) : Ev M_X12_fresh [aA v0, aI v1, aI v2] h (some (aI r), h) := by
  show Go M_X12_fresh (some (aI r), h) 0 [some (aA v0), some (aI v1), some (aI v2), none, none] [] h
  unfold m_X12_fresh at H
  refine go_iconst (v := (0 : Int32)) dX12_fresh_0 rfl ?_
  refine go_istoren (loc2 := [some (aA v0), some (aI v1), some (aI v2), some (aI (0 : Int32)), none]) dX12_fresh_1 rfl (by decide) rfl ?_
  refine go_iconst (v := (0 : Int32)) dX12_fresh_2 rfl ?_
  refine go_istore (loc2 := [some (aA v0), some (aI v1), some (aI v2), some (aI (0 : Int32)), some (aI (0 : Int32))]) dX12_fresh_3 (by decide) rfl ?_
  exact okl_X12_fresh_5 v0 v1 v2 h (0 : Int32) (0 : Int32) H
/-! X12_lost -/
def j_X12_lost_48 (v0 : Nat) (v1 : Int32) (v2 : Int32) (v4 : Int32) (s0 : Int32) (s1 : Int32) (h : Hp) (k : Int32 → Int32 → Option Int32) : Option Int32 :=
  k (s0 + s1) (v4 + (1 : Int32))
set_option maxRecDepth 20000 in
theorem okj_X12_lost_48 {r : Int32} (v0 : Nat) (v1 : Int32) (v2 : Int32) (v4 : Int32) (s0 : Int32) (s1 : Int32) (h : Hp) (k : Int32 → Int32 → Option Int32) (Hk : ∀ (v3q : Int32) (v4q : Int32), k v3q v4q = some r → Go M_X12_lost (some (aI r), h) 5 [some (aA v0), some (aI v1), some (aI v2), some (aI v3q), some (aI v4q)] [] h) (H : j_X12_lost_48 v0 v1 v2 v4 s0 s1 h k = some r) : Go M_X12_lost (some (aI r), h) 48 [some (aA v0), some (aI v1), some (aI v2), none, some (aI v4)] [aI s1, aI s0] h := by
  unfold j_X12_lost_48 at H
  refine go_iadd dX12_lost_48 ?_
  refine go_istoren (loc2 := [some (aA v0), some (aI v1), some (aI v2), some (aI (s0 + s1)), some (aI v4)]) dX12_lost_49 rfl (by decide) rfl ?_
  refine go_iinc (v := (v4 + (1 : Int32))) (loc2 := [some (aA v0), some (aI v1), some (aI v2), some (aI (s0 + s1)), some (aI (v4 + (1 : Int32)))]) dX12_lost_50 rfl rfl (by decide) rfl ?_
  refine go_goto (tgt := 5) dX12_lost_53 (by decide) ?_
  exact Hk (s0 + s1) (v4 + (1 : Int32)) H
def b_X12_lost_5 (v0 : Nat) (v1 : Int32) (v2 : Int32) (h : Hp) (k : Int32 → Int32 → Option Int32) (v3 : Int32) (v4 : Int32) : Option Int32 :=
  if v2 ≤ 0 then (some v3) else (rc h v0 12 (m_X12_longOf v0 v1 (v2 - (1 : Int32)) h)).bind fun x1 => if x1 ≤ v4 then (some v3) else (rc h v0 12 (m_X12_tokenAt v0 v1 (v2 - (1 : Int32)) v4 h)).bind fun x2 => (rc h v0 12 (m_X12_placeOf v0 v1 v2 x2 h)).bind fun x3 => j_X12_lost_48 v0 v1 v2 v4 v3 (if ¬ x3 = (-1 : Int32) then (0 : Int32) else (1 : Int32)) h k
set_option maxRecDepth 20000 in
theorem okb_X12_lost_5 {r : Int32} (v0 : Nat) (v1 : Int32) (v2 : Int32) (h : Hp) (k : Int32 → Int32 → Option Int32) (v3 : Int32) (v4 : Int32) (Hk : ∀ (v3q : Int32) (v4q : Int32), k v3q v4q = some r → Go M_X12_lost (some (aI r), h) 5 [some (aA v0), some (aI v1), some (aI v2), some (aI v3q), some (aI v4q)] [] h) (H : b_X12_lost_5 v0 v1 v2 h k v3 v4 = some r) : Go M_X12_lost (some (aI r), h) 5 [some (aA v0), some (aI v1), some (aI v2), some (aI v3), some (aI v4)] [] h := by
  unfold b_X12_lost_5 at H
  refine go_iloadn dX12_lost_5 rfl ?_
  refine go_if_le (tgt := 56) dX12_lost_6 (by decide) (fun c1 => ?_) (fun c1 => ?_)
  · replace H := (gm_ite H).1 c1
    refine go_iloadn dX12_lost_56 rfl ?_
    obtain rfl := Option.some.inj H
    exact go_ireturn dX12_lost_57 (tyI_int rfl)
  · replace H := (gm_ite H).2 c1
    refine go_iload dX12_lost_9 rfl ?_
    refine go_aloadn dX12_lost_11 rfl ?_
    refine go_iloadn dX12_lost_12 rfl ?_
    refine go_iloadn dX12_lost_13 rfl ?_
    refine go_iconst (v := (1 : Int32)) dX12_lost_14 rfl ?_
    refine go_isub dX12_lost_15 ?_
    obtain ⟨c2, x1, ex1, H⟩ := gm_rc H
    refine go_callV (vs := [aI v1, aI (v2 - (1 : Int32))]) (stk := [aI v4]) (o1 := (some (aI x1), h)) mk_X12_longOf sv_X12_lost_269 cl_X12 rfl dX12_lost_16 c2 rfl rfl (Nat.le_of_ble_eq_true rfl) (Nat.le_of_ble_eq_true rfl) (ok_X12_longOf ex1) (show Go M_X12_lost (some (aI r), h) 19 [some (aA v0), some (aI v1), some (aI v2), some (aI v3), some (aI v4)] [aI x1, aI v4] h from ?_)
    refine go_icmp_ge (tgt := 56) dX12_lost_19 (by decide) (fun c3 => ?_) (fun c3 => ?_)
    · replace H := (gm_ite H).1 c3
      refine go_iloadn dX12_lost_56 rfl ?_
      obtain rfl := Option.some.inj H
      exact go_ireturn dX12_lost_57 (tyI_int rfl)
    · replace H := (gm_ite H).2 c3
      refine go_iloadn dX12_lost_22 rfl ?_
      refine go_aloadn dX12_lost_23 rfl ?_
      refine go_iloadn dX12_lost_24 rfl ?_
      refine go_iloadn dX12_lost_25 rfl ?_
      refine go_aloadn dX12_lost_26 rfl ?_
      refine go_iloadn dX12_lost_27 rfl ?_
      refine go_iloadn dX12_lost_28 rfl ?_
      refine go_iconst (v := (1 : Int32)) dX12_lost_29 rfl ?_
      refine go_isub dX12_lost_30 ?_
      refine go_iload dX12_lost_31 rfl ?_
      obtain ⟨c4, x2, ex2, H⟩ := gm_rc H
      refine go_callV (vs := [aI v1, aI (v2 - (1 : Int32)), aI v4]) (stk := [aI v2, aI v1, aA v0, aI v3]) (o1 := (some (aI x2), h)) mk_X12_tokenAt sv_X12_lost_262 cl_X12 rfl dX12_lost_33 c4 rfl rfl (Nat.le_of_ble_eq_true rfl) (Nat.le_of_ble_eq_true rfl) (ok_X12_tokenAt ex2) (show Go M_X12_lost (some (aI r), h) 36 [some (aA v0), some (aI v1), some (aI v2), some (aI v3), some (aI v4)] [aI x2, aI v2, aI v1, aA v0, aI v3] h from ?_)
      obtain ⟨c5, x3, ex3, H⟩ := gm_rc H
      refine go_callV (vs := [aI v1, aI v2, aI x2]) (stk := [aI v3]) (o1 := (some (aI x3), h)) mk_X12_placeOf sv_X12_lost_272 cl_X12 rfl dX12_lost_36 c5 rfl rfl (Nat.le_of_ble_eq_true rfl) (Nat.le_of_ble_eq_true rfl) (ok_X12_placeOf ex3) (show Go M_X12_lost (some (aI r), h) 39 [some (aA v0), some (aI v1), some (aI v2), some (aI v3), some (aI v4)] [aI x3, aI v3] h from ?_)
      refine go_iconst (v := (-1 : Int32)) dX12_lost_39 rfl ?_
      refine go_icmp_ne (tgt := 47) dX12_lost_40 (by decide) (fun c6 => ?_) (fun c6 => ?_)
      · rw [if_pos c6] at H
        refine go_iconst (v := (0 : Int32)) dX12_lost_47 rfl ?_
        refine go_mask [true, true, true, false, true] (loc' := [some (aA v0), some (aI v1), some (aI v2), none, some (aI v4)]) rfl ?_
        exact okj_X12_lost_48 v0 v1 v2 v4 v3 (0 : Int32) h k Hk H
      · rw [if_neg c6] at H
        refine go_iconst (v := (1 : Int32)) dX12_lost_43 rfl ?_
        refine go_goto (tgt := 48) dX12_lost_44 (by decide) ?_
        refine go_mask [true, true, true, false, true] (loc' := [some (aA v0), some (aI v1), some (aI v2), none, some (aI v4)]) rfl ?_
        exact okj_X12_lost_48 v0 v1 v2 v4 v3 (1 : Int32) h k Hk H
def l_X12_lost_5 (v0 : Nat) (v1 : Int32) (v2 : Int32) (h : Hp) (v3 : Int32) (v4 : Int32) : Option Int32 := loopK FUEL (fun (k : Int32 × Int32 → Option Int32) (s : Int32 × Int32) => b_X12_lost_5 v0 v1 v2 h (fun v3q v4q => k (v3q, v4q)) s.1 s.2) (v3, v4)
theorem okl_X12_lost_5 {r : Int32} (v0 : Nat) (v1 : Int32) (v2 : Int32) (h : Hp) (v3 : Int32) (v4 : Int32) (H : l_X12_lost_5 v0 v1 v2 h v3 v4 = some r) : Go M_X12_lost (some (aI r), h) 5 [some (aA v0), some (aI v1), some (aI v2), some (aI v3), some (aI v4)] [] h := by
  unfold l_X12_lost_5 at H
  exact go_loop (σ := Int32 × Int32) (body := (fun (k : Int32 × Int32 → Option Int32) (s : Int32 × Int32) => b_X12_lost_5 v0 v1 v2 h (fun v3q v4q => k (v3q, v4q)) s.1 s.2)) (fun s => [some (aA v0), some (aI v1), some (aI v2), some (aI s.1), some (aI s.2)]) (fun s => h) (fun k s Hk H => okb_X12_lost_5 v0 v1 v2 h (fun v3q v4q => k (v3q, v4q)) s.1 s.2  (fun v3q v4q H => Hk (v3q, v4q) H) H) FUEL (v3, v4) H
def m_X12_lost (v0 : Nat) (v1 : Int32) (v2 : Int32) (h : Hp) : Option Int32 :=
  l_X12_lost_5 v0 v1 v2 h (0 : Int32) (0 : Int32)
set_option maxRecDepth 20000 in
theorem ok_X12_lost {r : Int32} {v0 : Nat} {v1 : Int32} {v2 : Int32} {h : Hp} (H : m_X12_lost v0 v1 v2 h = some r) : Ev M_X12_lost [aA v0, aI v1, aI v2] h (some (aI r), h) := by
  show Go M_X12_lost (some (aI r), h) 0 [some (aA v0), some (aI v1), some (aI v2), none, none] [] h
  unfold m_X12_lost at H
  refine go_iconst (v := (0 : Int32)) dX12_lost_0 rfl ?_
  refine go_istoren (loc2 := [some (aA v0), some (aI v1), some (aI v2), some (aI (0 : Int32)), none]) dX12_lost_1 rfl (by decide) rfl ?_
  refine go_iconst (v := (0 : Int32)) dX12_lost_2 rfl ?_
  refine go_istore (loc2 := [some (aA v0), some (aI v1), some (aI v2), some (aI (0 : Int32)), some (aI (0 : Int32))]) dX12_lost_3 (by decide) rfl ?_
  exact okl_X12_lost_5 v0 v1 v2 h (0 : Int32) (0 : Int32) H
/-! X12_turned -/
def j_X12_turned_93 (v0 : Nat) (v1 : Int32) (v2 : Int32) (v4 : Int32) (v5 : Int32) (s0 : Int32) (s1 : Int32) (h : Hp) (K101 : Int32 → Option Int32) (k : Int32 → Int32 → Option Int32) : Option Int32 :=
  k (s0 + s1) (v5 + (1 : Int32))
set_option maxRecDepth 20000 in
theorem okj_X12_turned_93 {r : Int32} (v0 : Nat) (v1 : Int32) (v2 : Int32) (v4 : Int32) (v5 : Int32) (s0 : Int32) (s1 : Int32) (h : Hp) (K101 : Int32 → Option Int32) (k : Int32 → Int32 → Option Int32) (HK101 : ∀ (v3q : Int32) , K101 v3q = some r → Go M_X12_turned (some (aI r), h) 101 [some (aA v0), some (aI v1), some (aI v2), some (aI v3q), some (aI v4), none, none, none] [] h) (Hk : ∀ (v3q : Int32) (v5q : Int32), k v3q v5q = some r → Go M_X12_turned (some (aI r), h) 25 [some (aA v0), some (aI v1), some (aI v2), some (aI v3q), some (aI v4), some (aI v5q), none, none] [] h) (H : j_X12_turned_93 v0 v1 v2 v4 v5 s0 s1 h K101 k = some r) : Go M_X12_turned (some (aI r), h) 93 [some (aA v0), some (aI v1), some (aI v2), none, some (aI v4), some (aI v5), none, none] [aI s1, aI s0] h := by
  unfold j_X12_turned_93 at H
  refine go_iadd dX12_turned_93 ?_
  refine go_istoren (loc2 := [some (aA v0), some (aI v1), some (aI v2), some (aI (s0 + s1)), some (aI v4), some (aI v5), none, none]) dX12_turned_94 rfl (by decide) rfl ?_
  refine go_iinc (v := (v5 + (1 : Int32))) (loc2 := [some (aA v0), some (aI v1), some (aI v2), some (aI (s0 + s1)), some (aI v4), some (aI (v5 + (1 : Int32))), none, none]) dX12_turned_95 rfl rfl (by decide) rfl ?_
  refine go_goto (tgt := 25) dX12_turned_98 (by decide) ?_
  exact Hk (s0 + s1) (v5 + (1 : Int32)) H
def b_X12_turned_25 (v0 : Nat) (v1 : Int32) (v2 : Int32) (v4 : Int32) (h : Hp) (K101 : Int32 → Option Int32) (k : Int32 → Int32 → Option Int32) (v3 : Int32) (v5 : Int32) : Option Int32 :=
  if v4 ≤ v5 then K101 v3 else (rc h v0 12 (m_X12_tokenAt v0 v1 (v2 - (1 : Int32)) v5 h)).bind fun x1 => (rc h v0 12 (m_X12_placeOf v0 v1 v2 x1 h)).bind fun x2 => (rc h v0 12 (m_X12_tokenAt v0 v1 (v2 - (1 : Int32)) v4 h)).bind fun x3 => (rc h v0 12 (m_X12_placeOf v0 v1 v2 x3 h)).bind fun x4 => j_X12_turned_93 v0 v1 v2 v4 v5 v3 (if x2 = (-1 : Int32) then (0 : Int32) else (if x4 = (-1 : Int32) then (0 : Int32) else (if x2 ≤ x4 then (0 : Int32) else (1 : Int32)))) h K101 k
set_option maxRecDepth 20000 in
theorem okb_X12_turned_25 {r : Int32} (v0 : Nat) (v1 : Int32) (v2 : Int32) (v4 : Int32) (h : Hp) (K101 : Int32 → Option Int32) (k : Int32 → Int32 → Option Int32) (v3 : Int32) (v5 : Int32) (HK101 : ∀ (v3q : Int32) , K101 v3q = some r → Go M_X12_turned (some (aI r), h) 101 [some (aA v0), some (aI v1), some (aI v2), some (aI v3q), some (aI v4), none, none, none] [] h) (Hk : ∀ (v3q : Int32) (v5q : Int32), k v3q v5q = some r → Go M_X12_turned (some (aI r), h) 25 [some (aA v0), some (aI v1), some (aI v2), some (aI v3q), some (aI v4), some (aI v5q), none, none] [] h) (H : b_X12_turned_25 v0 v1 v2 v4 h K101 k v3 v5 = some r) : Go M_X12_turned (some (aI r), h) 25 [some (aA v0), some (aI v1), some (aI v2), some (aI v3), some (aI v4), some (aI v5), none, none] [] h := by
  unfold b_X12_turned_25 at H
  refine go_iload dX12_turned_25 rfl ?_
  refine go_iload dX12_turned_27 rfl ?_
  refine go_icmp_ge (tgt := 101) dX12_turned_29 (by decide) (fun c1 => ?_) (fun c1 => ?_)
  · replace H := (gm_ite H).1 c1
    refine go_mask [true, true, true, true, true, false, false, false] (loc' := [some (aA v0), some (aI v1), some (aI v2), some (aI v3), some (aI v4), none, none, none]) rfl ?_
    exact HK101 v3 H
  · replace H := (gm_ite H).2 c1
    refine go_aloadn dX12_turned_32 rfl ?_
    refine go_iloadn dX12_turned_33 rfl ?_
    refine go_iloadn dX12_turned_34 rfl ?_
    refine go_aloadn dX12_turned_35 rfl ?_
    refine go_iloadn dX12_turned_36 rfl ?_
    refine go_iloadn dX12_turned_37 rfl ?_
    refine go_iconst (v := (1 : Int32)) dX12_turned_38 rfl ?_
    refine go_isub dX12_turned_39 ?_
    refine go_iload dX12_turned_40 rfl ?_
    obtain ⟨c2, x1, ex1, H⟩ := gm_rc H
    refine go_callV (vs := [aI v1, aI (v2 - (1 : Int32)), aI v5]) (stk := [aI v2, aI v1, aA v0]) (o1 := (some (aI x1), h)) mk_X12_tokenAt sv_X12_turned_262 cl_X12 rfl dX12_turned_42 c2 rfl rfl (Nat.le_of_ble_eq_true rfl) (Nat.le_of_ble_eq_true rfl) (ok_X12_tokenAt ex1) (show Go M_X12_turned (some (aI r), h) 45 [some (aA v0), some (aI v1), some (aI v2), some (aI v3), some (aI v4), some (aI v5), none, none] [aI x1, aI v2, aI v1, aA v0] h from ?_)
    obtain ⟨c3, x2, ex2, H⟩ := gm_rc H
    refine go_callV (vs := [aI v1, aI v2, aI x1]) (stk := []) (o1 := (some (aI x2), h)) mk_X12_placeOf sv_X12_turned_272 cl_X12 rfl dX12_turned_45 c3 rfl rfl (Nat.le_of_ble_eq_true rfl) (Nat.le_of_ble_eq_true rfl) (ok_X12_placeOf ex2) (show Go M_X12_turned (some (aI r), h) 48 [some (aA v0), some (aI v1), some (aI v2), some (aI v3), some (aI v4), some (aI v5), none, none] [aI x2] h from ?_)
    refine go_istore (loc2 := [some (aA v0), some (aI v1), some (aI v2), some (aI v3), some (aI v4), some (aI v5), some (aI x2), none]) dX12_turned_48 (by decide) rfl ?_
    refine go_aloadn dX12_turned_50 rfl ?_
    refine go_iloadn dX12_turned_51 rfl ?_
    refine go_iloadn dX12_turned_52 rfl ?_
    refine go_aloadn dX12_turned_53 rfl ?_
    refine go_iloadn dX12_turned_54 rfl ?_
    refine go_iloadn dX12_turned_55 rfl ?_
    refine go_iconst (v := (1 : Int32)) dX12_turned_56 rfl ?_
    refine go_isub dX12_turned_57 ?_
    refine go_iload dX12_turned_58 rfl ?_
    obtain ⟨c4, x3, ex3, H⟩ := gm_rc H
    refine go_callV (vs := [aI v1, aI (v2 - (1 : Int32)), aI v4]) (stk := [aI v2, aI v1, aA v0]) (o1 := (some (aI x3), h)) mk_X12_tokenAt sv_X12_turned_262 cl_X12 rfl dX12_turned_60 c4 rfl rfl (Nat.le_of_ble_eq_true rfl) (Nat.le_of_ble_eq_true rfl) (ok_X12_tokenAt ex3) (show Go M_X12_turned (some (aI r), h) 63 [some (aA v0), some (aI v1), some (aI v2), some (aI v3), some (aI v4), some (aI v5), some (aI x2), none] [aI x3, aI v2, aI v1, aA v0] h from ?_)
    obtain ⟨c5, x4, ex4, H⟩ := gm_rc H
    refine go_callV (vs := [aI v1, aI v2, aI x3]) (stk := []) (o1 := (some (aI x4), h)) mk_X12_placeOf sv_X12_turned_272 cl_X12 rfl dX12_turned_63 c5 rfl rfl (Nat.le_of_ble_eq_true rfl) (Nat.le_of_ble_eq_true rfl) (ok_X12_placeOf ex4) (show Go M_X12_turned (some (aI r), h) 66 [some (aA v0), some (aI v1), some (aI v2), some (aI v3), some (aI v4), some (aI v5), some (aI x2), none] [aI x4] h from ?_)
    refine go_istore (loc2 := [some (aA v0), some (aI v1), some (aI v2), some (aI v3), some (aI v4), some (aI v5), some (aI x2), some (aI x4)]) dX12_turned_66 (by decide) rfl ?_
    refine go_iloadn dX12_turned_68 rfl ?_
    refine go_iload dX12_turned_69 rfl ?_
    refine go_iconst (v := (-1 : Int32)) dX12_turned_71 rfl ?_
    refine go_icmp_eq (tgt := 92) dX12_turned_72 (by decide) (fun c6 => ?_) (fun c6 => ?_)
    · rw [if_pos c6] at H
      refine go_iconst (v := (0 : Int32)) dX12_turned_92 rfl ?_
      refine go_mask [true, true, true, false, true, true, false, false] (loc' := [some (aA v0), some (aI v1), some (aI v2), none, some (aI v4), some (aI v5), none, none]) rfl ?_
      exact okj_X12_turned_93 v0 v1 v2 v4 v5 v3 (0 : Int32) h K101 k HK101 Hk H
    · rw [if_neg c6] at H
      refine go_iload dX12_turned_75 rfl ?_
      refine go_iconst (v := (-1 : Int32)) dX12_turned_77 rfl ?_
      refine go_icmp_eq (tgt := 92) dX12_turned_78 (by decide) (fun c7 => ?_) (fun c7 => ?_)
      · rw [if_pos c7] at H
        refine go_iconst (v := (0 : Int32)) dX12_turned_92 rfl ?_
        refine go_mask [true, true, true, false, true, true, false, false] (loc' := [some (aA v0), some (aI v1), some (aI v2), none, some (aI v4), some (aI v5), none, none]) rfl ?_
        exact okj_X12_turned_93 v0 v1 v2 v4 v5 v3 (0 : Int32) h K101 k HK101 Hk H
      · rw [if_neg c7] at H
        refine go_iload dX12_turned_81 rfl ?_
        refine go_iload dX12_turned_83 rfl ?_
        refine go_icmp_ge (tgt := 92) dX12_turned_85 (by decide) (fun c8 => ?_) (fun c8 => ?_)
        · rw [if_pos c8] at H
          refine go_iconst (v := (0 : Int32)) dX12_turned_92 rfl ?_
          refine go_mask [true, true, true, false, true, true, false, false] (loc' := [some (aA v0), some (aI v1), some (aI v2), none, some (aI v4), some (aI v5), none, none]) rfl ?_
          exact okj_X12_turned_93 v0 v1 v2 v4 v5 v3 (0 : Int32) h K101 k HK101 Hk H
        · rw [if_neg c8] at H
          refine go_iconst (v := (1 : Int32)) dX12_turned_88 rfl ?_
          refine go_goto (tgt := 93) dX12_turned_89 (by decide) ?_
          refine go_mask [true, true, true, false, true, true, false, false] (loc' := [some (aA v0), some (aI v1), some (aI v2), none, some (aI v4), some (aI v5), none, none]) rfl ?_
          exact okj_X12_turned_93 v0 v1 v2 v4 v5 v3 (1 : Int32) h K101 k HK101 Hk H
def l_X12_turned_25 (v0 : Nat) (v1 : Int32) (v2 : Int32) (v4 : Int32) (h : Hp) (K101 : Int32 → Option Int32) (v3 : Int32) (v5 : Int32) : Option Int32 := loopK FUEL (fun (k : Int32 × Int32 → Option Int32) (s : Int32 × Int32) => b_X12_turned_25 v0 v1 v2 v4 h K101 (fun v3q v5q => k (v3q, v5q)) s.1 s.2) (v3, v5)
theorem okl_X12_turned_25 {r : Int32} (v0 : Nat) (v1 : Int32) (v2 : Int32) (v4 : Int32) (h : Hp) (K101 : Int32 → Option Int32) (v3 : Int32) (v5 : Int32) (HK101 : ∀ (v3q : Int32) , K101 v3q = some r → Go M_X12_turned (some (aI r), h) 101 [some (aA v0), some (aI v1), some (aI v2), some (aI v3q), some (aI v4), none, none, none] [] h) (H : l_X12_turned_25 v0 v1 v2 v4 h K101 v3 v5 = some r) : Go M_X12_turned (some (aI r), h) 25 [some (aA v0), some (aI v1), some (aI v2), some (aI v3), some (aI v4), some (aI v5), none, none] [] h := by
  unfold l_X12_turned_25 at H
  exact go_loop (σ := Int32 × Int32) (body := (fun (k : Int32 × Int32 → Option Int32) (s : Int32 × Int32) => b_X12_turned_25 v0 v1 v2 v4 h K101 (fun v3q v5q => k (v3q, v5q)) s.1 s.2)) (fun s => [some (aA v0), some (aI v1), some (aI v2), some (aI s.1), some (aI v4), some (aI s.2), none, none]) (fun s => h) (fun k s Hk H => okb_X12_turned_25 v0 v1 v2 v4 h K101 (fun v3q v5q => k (v3q, v5q)) s.1 s.2 HK101 (fun v3q v5q H => Hk (v3q, v5q) H) H) FUEL (v3, v5) H
def j_X12_turned_101 (v0 : Nat) (v1 : Int32) (v2 : Int32) (v3 : Int32) (v4 : Int32)  (h : Hp) (k : Int32 → Int32 → Option Int32) : Option Int32 :=
  k v3 (v4 + (1 : Int32))
set_option maxRecDepth 20000 in
theorem okj_X12_turned_101 {r : Int32} (v0 : Nat) (v1 : Int32) (v2 : Int32) (v3 : Int32) (v4 : Int32)  (h : Hp) (k : Int32 → Int32 → Option Int32) (Hk : ∀ (v3q : Int32) (v4q : Int32), k v3q v4q = some r → Go M_X12_turned (some (aI r), h) 5 [some (aA v0), some (aI v1), some (aI v2), some (aI v3q), some (aI v4q), none, none, none] [] h) (H : j_X12_turned_101 v0 v1 v2 v3 v4 h k = some r) : Go M_X12_turned (some (aI r), h) 101 [some (aA v0), some (aI v1), some (aI v2), some (aI v3), some (aI v4), none, none, none] [] h := by
  unfold j_X12_turned_101 at H
  refine go_iinc (v := (v4 + (1 : Int32))) (loc2 := [some (aA v0), some (aI v1), some (aI v2), some (aI v3), some (aI (v4 + (1 : Int32))), none, none, none]) dX12_turned_101 rfl rfl (by decide) rfl ?_
  refine go_goto (tgt := 5) dX12_turned_104 (by decide) ?_
  exact Hk v3 (v4 + (1 : Int32)) H
def b_X12_turned_5 (v0 : Nat) (v1 : Int32) (v2 : Int32) (h : Hp) (k : Int32 → Int32 → Option Int32) (v3 : Int32) (v4 : Int32) : Option Int32 :=
  if v2 ≤ 0 then (some v3) else (rc h v0 12 (m_X12_longOf v0 v1 (v2 - (1 : Int32)) h)).bind fun x1 => if x1 ≤ v4 then (some v3) else l_X12_turned_25 v0 v1 v2 v4 h (fun a2_3 => j_X12_turned_101 v0 v1 v2 a2_3 v4 h k) v3 (0 : Int32)
set_option maxRecDepth 20000 in
theorem okb_X12_turned_5 {r : Int32} (v0 : Nat) (v1 : Int32) (v2 : Int32) (h : Hp) (k : Int32 → Int32 → Option Int32) (v3 : Int32) (v4 : Int32) (Hk : ∀ (v3q : Int32) (v4q : Int32), k v3q v4q = some r → Go M_X12_turned (some (aI r), h) 5 [some (aA v0), some (aI v1), some (aI v2), some (aI v3q), some (aI v4q), none, none, none] [] h) (H : b_X12_turned_5 v0 v1 v2 h k v3 v4 = some r) : Go M_X12_turned (some (aI r), h) 5 [some (aA v0), some (aI v1), some (aI v2), some (aI v3), some (aI v4), none, none, none] [] h := by
  unfold b_X12_turned_5 at H
  refine go_iloadn dX12_turned_5 rfl ?_
  refine go_if_le (tgt := 107) dX12_turned_6 (by decide) (fun c1 => ?_) (fun c1 => ?_)
  · replace H := (gm_ite H).1 c1
    refine go_iloadn dX12_turned_107 rfl ?_
    obtain rfl := Option.some.inj H
    exact go_ireturn dX12_turned_108 (tyI_int rfl)
  · replace H := (gm_ite H).2 c1
    refine go_iload dX12_turned_9 rfl ?_
    refine go_aloadn dX12_turned_11 rfl ?_
    refine go_iloadn dX12_turned_12 rfl ?_
    refine go_iloadn dX12_turned_13 rfl ?_
    refine go_iconst (v := (1 : Int32)) dX12_turned_14 rfl ?_
    refine go_isub dX12_turned_15 ?_
    obtain ⟨c2, x1, ex1, H⟩ := gm_rc H
    refine go_callV (vs := [aI v1, aI (v2 - (1 : Int32))]) (stk := [aI v4]) (o1 := (some (aI x1), h)) mk_X12_longOf sv_X12_turned_269 cl_X12 rfl dX12_turned_16 c2 rfl rfl (Nat.le_of_ble_eq_true rfl) (Nat.le_of_ble_eq_true rfl) (ok_X12_longOf ex1) (show Go M_X12_turned (some (aI r), h) 19 [some (aA v0), some (aI v1), some (aI v2), some (aI v3), some (aI v4), none, none, none] [aI x1, aI v4] h from ?_)
    refine go_icmp_ge (tgt := 107) dX12_turned_19 (by decide) (fun c3 => ?_) (fun c3 => ?_)
    · replace H := (gm_ite H).1 c3
      refine go_iloadn dX12_turned_107 rfl ?_
      obtain rfl := Option.some.inj H
      exact go_ireturn dX12_turned_108 (tyI_int rfl)
    · replace H := (gm_ite H).2 c3
      refine go_iconst (v := (0 : Int32)) dX12_turned_22 rfl ?_
      refine go_istore (loc2 := [some (aA v0), some (aI v1), some (aI v2), some (aI v3), some (aI v4), some (aI (0 : Int32)), none, none]) dX12_turned_23 (by decide) rfl ?_
      refine okl_X12_turned_25 v0 v1 v2 v4 h (fun a2_3 => j_X12_turned_101 v0 v1 v2 a2_3 v4 h k) v3 (0 : Int32) ?_ H
      · intro a2_3 H
        exact okj_X12_turned_101 v0 v1 v2 a2_3 v4 h k Hk H
def l_X12_turned_5 (v0 : Nat) (v1 : Int32) (v2 : Int32) (h : Hp) (v3 : Int32) (v4 : Int32) : Option Int32 := loopK FUEL (fun (k : Int32 × Int32 → Option Int32) (s : Int32 × Int32) => b_X12_turned_5 v0 v1 v2 h (fun v3q v4q => k (v3q, v4q)) s.1 s.2) (v3, v4)
theorem okl_X12_turned_5 {r : Int32} (v0 : Nat) (v1 : Int32) (v2 : Int32) (h : Hp) (v3 : Int32) (v4 : Int32) (H : l_X12_turned_5 v0 v1 v2 h v3 v4 = some r) : Go M_X12_turned (some (aI r), h) 5 [some (aA v0), some (aI v1), some (aI v2), some (aI v3), some (aI v4), none, none, none] [] h := by
  unfold l_X12_turned_5 at H
  exact go_loop (σ := Int32 × Int32) (body := (fun (k : Int32 × Int32 → Option Int32) (s : Int32 × Int32) => b_X12_turned_5 v0 v1 v2 h (fun v3q v4q => k (v3q, v4q)) s.1 s.2)) (fun s => [some (aA v0), some (aI v1), some (aI v2), some (aI s.1), some (aI s.2), none, none, none]) (fun s => h) (fun k s Hk H => okb_X12_turned_5 v0 v1 v2 h (fun v3q v4q => k (v3q, v4q)) s.1 s.2  (fun v3q v4q H => Hk (v3q, v4q) H) H) FUEL (v3, v4) H
def m_X12_turned (v0 : Nat) (v1 : Int32) (v2 : Int32) (h : Hp) : Option Int32 :=
  l_X12_turned_5 v0 v1 v2 h (0 : Int32) (0 : Int32)
set_option maxRecDepth 20000 in
theorem ok_X12_turned {r : Int32} {v0 : Nat} {v1 : Int32} {v2 : Int32} {h : Hp} (H : m_X12_turned v0 v1 v2 h = some r) : Ev M_X12_turned [aA v0, aI v1, aI v2] h (some (aI r), h) := by
  show Go M_X12_turned (some (aI r), h) 0 [some (aA v0), some (aI v1), some (aI v2), none, none, none, none, none] [] h
  unfold m_X12_turned at H
  refine go_iconst (v := (0 : Int32)) dX12_turned_0 rfl ?_
  refine go_istoren (loc2 := [some (aA v0), some (aI v1), some (aI v2), some (aI (0 : Int32)), none, none, none, none]) dX12_turned_1 rfl (by decide) rfl ?_
  refine go_iconst (v := (0 : Int32)) dX12_turned_2 rfl ?_
  refine go_istore (loc2 := [some (aA v0), some (aI v1), some (aI v2), some (aI (0 : Int32)), some (aI (0 : Int32)), none, none, none]) dX12_turned_3 (by decide) rfl ?_
  exact okl_X12_turned_5 v0 v1 v2 h (0 : Int32) (0 : Int32) H
/-! X12_oldest -/
def j_X12_oldest_55 (v0 : Nat) (v1 : Int32) (v2 : Int32) (v4 : Int32) (v5 : Int32) (v6 : Int32) (s0 : Int32) (h : Hp) (k : Int32 → Int32 → Int32 → Option Int32) : Option Int32 :=
  (m_X12_greater v4 v6 h).bind fun x1 => k s0 x1 (v5 + (1 : Int32))
set_option maxRecDepth 20000 in
theorem okj_X12_oldest_55 {r : Int32} (v0 : Nat) (v1 : Int32) (v2 : Int32) (v4 : Int32) (v5 : Int32) (v6 : Int32) (s0 : Int32) (h : Hp) (k : Int32 → Int32 → Int32 → Option Int32) (Hk : ∀ (v3q : Int32) (v4q : Int32) (v5q : Int32), k v3q v4q v5q = some r → Go M_X12_oldest (some (aI r), h) 8 [some (aA v0), some (aI v1), some (aI v2), some (aI v3q), some (aI v4q), some (aI v5q), none] [] h) (H : j_X12_oldest_55 v0 v1 v2 v4 v5 v6 s0 h k = some r) : Go M_X12_oldest (some (aI r), h) 55 [some (aA v0), some (aI v1), some (aI v2), none, some (aI v4), some (aI v5), some (aI v6)] [aI s0] h := by
  unfold j_X12_oldest_55 at H
  refine go_istoren (loc2 := [some (aA v0), some (aI v1), some (aI v2), some (aI s0), some (aI v4), some (aI v5), some (aI v6)]) dX12_oldest_55 rfl (by decide) rfl ?_
  refine go_iload dX12_oldest_56 rfl ?_
  refine go_iload dX12_oldest_58 rfl ?_
  obtain ⟨x1, ex1, H⟩ := bind_some H
  refine go_callS (vs := [aI v4, aI v6]) (stk := []) (o1 := (some (aI x1), h)) mk_X12_greater ss_X12_oldest_297 dX12_oldest_60 rfl rfl (Nat.le_of_ble_eq_true rfl) (Nat.le_of_ble_eq_true rfl) (ok_X12_greater ex1) (show Go M_X12_oldest (some (aI r), h) 63 [some (aA v0), some (aI v1), some (aI v2), some (aI s0), some (aI v4), some (aI v5), some (aI v6)] [aI x1] h from ?_)
  refine go_istore (loc2 := [some (aA v0), some (aI v1), some (aI v2), some (aI s0), some (aI x1), some (aI v5), some (aI v6)]) dX12_oldest_63 (by decide) rfl ?_
  refine go_iinc (v := (v5 + (1 : Int32))) (loc2 := [some (aA v0), some (aI v1), some (aI v2), some (aI s0), some (aI x1), some (aI (v5 + (1 : Int32))), some (aI v6)]) dX12_oldest_65 rfl rfl (by decide) rfl ?_
  refine go_goto (tgt := 8) dX12_oldest_68 (by decide) ?_
  refine go_mask [true, true, true, true, true, true, false] (loc' := [some (aA v0), some (aI v1), some (aI v2), some (aI s0), some (aI x1), some (aI (v5 + (1 : Int32))), none]) rfl ?_
  exact Hk s0 x1 (v5 + (1 : Int32)) H
def b_X12_oldest_8 (v0 : Nat) (v1 : Int32) (v2 : Int32) (h : Hp) (k : Int32 → Int32 → Int32 → Option Int32) (v3 : Int32) (v4 : Int32) (v5 : Int32) : Option Int32 :=
  (rc h v0 12 (m_X12_longOf v0 v1 v2 h)).bind fun x1 => if x1 ≤ v5 then (some v3) else (rc h v0 12 (m_X12_tokenAt v0 v1 v2 v5 h)).bind fun x2 => (rc h v0 12 (m_X12_whereIs v0 x2 h)).bind fun x3 => (m_X12_ones (x3 &&& ((ishlF (2 : Int32) v2) - (1 : Int32))) h).bind fun x4 => j_X12_oldest_55 v0 v1 v2 v4 v5 x4 (if x4 ≤ v4 then v3 else v5) h k
set_option maxRecDepth 20000 in
theorem okb_X12_oldest_8 {r : Int32} (v0 : Nat) (v1 : Int32) (v2 : Int32) (h : Hp) (k : Int32 → Int32 → Int32 → Option Int32) (v3 : Int32) (v4 : Int32) (v5 : Int32) (Hk : ∀ (v3q : Int32) (v4q : Int32) (v5q : Int32), k v3q v4q v5q = some r → Go M_X12_oldest (some (aI r), h) 8 [some (aA v0), some (aI v1), some (aI v2), some (aI v3q), some (aI v4q), some (aI v5q), none] [] h) (H : b_X12_oldest_8 v0 v1 v2 h k v3 v4 v5 = some r) : Go M_X12_oldest (some (aI r), h) 8 [some (aA v0), some (aI v1), some (aI v2), some (aI v3), some (aI v4), some (aI v5), none] [] h := by
  unfold b_X12_oldest_8 at H
  refine go_iload dX12_oldest_8 rfl ?_
  refine go_aloadn dX12_oldest_10 rfl ?_
  refine go_iloadn dX12_oldest_11 rfl ?_
  refine go_iloadn dX12_oldest_12 rfl ?_
  obtain ⟨c1, x1, ex1, H⟩ := gm_rc H
  refine go_callV (vs := [aI v1, aI v2]) (stk := [aI v5]) (o1 := (some (aI x1), h)) mk_X12_longOf sv_X12_oldest_269 cl_X12 rfl dX12_oldest_13 c1 rfl rfl (Nat.le_of_ble_eq_true rfl) (Nat.le_of_ble_eq_true rfl) (ok_X12_longOf ex1) (show Go M_X12_oldest (some (aI r), h) 16 [some (aA v0), some (aI v1), some (aI v2), some (aI v3), some (aI v4), some (aI v5), none] [aI x1, aI v5] h from ?_)
  refine go_icmp_ge (tgt := 71) dX12_oldest_16 (by decide) (fun c2 => ?_) (fun c2 => ?_)
  · replace H := (gm_ite H).1 c2
    refine go_iloadn dX12_oldest_71 rfl ?_
    obtain rfl := Option.some.inj H
    exact go_ireturn dX12_oldest_72 (tyI_int rfl)
  · replace H := (gm_ite H).2 c2
    refine go_aloadn dX12_oldest_19 rfl ?_
    refine go_aloadn dX12_oldest_20 rfl ?_
    refine go_iloadn dX12_oldest_21 rfl ?_
    refine go_iloadn dX12_oldest_22 rfl ?_
    refine go_iload dX12_oldest_23 rfl ?_
    obtain ⟨c3, x2, ex2, H⟩ := gm_rc H
    refine go_callV (vs := [aI v1, aI v2, aI v5]) (stk := [aA v0]) (o1 := (some (aI x2), h)) mk_X12_tokenAt sv_X12_oldest_262 cl_X12 rfl dX12_oldest_25 c3 rfl rfl (Nat.le_of_ble_eq_true rfl) (Nat.le_of_ble_eq_true rfl) (ok_X12_tokenAt ex2) (show Go M_X12_oldest (some (aI r), h) 28 [some (aA v0), some (aI v1), some (aI v2), some (aI v3), some (aI v4), some (aI v5), none] [aI x2, aA v0] h from ?_)
    obtain ⟨c4, x3, ex3, H⟩ := gm_rc H
    refine go_callV (vs := [aI x2]) (stk := []) (o1 := (some (aI x3), h)) mk_X12_whereIs sv_X12_oldest_278 cl_X12 rfl dX12_oldest_28 c4 rfl rfl (Nat.le_of_ble_eq_true rfl) (Nat.le_of_ble_eq_true rfl) (ok_X12_whereIs ex3) (show Go M_X12_oldest (some (aI r), h) 31 [some (aA v0), some (aI v1), some (aI v2), some (aI v3), some (aI v4), some (aI v5), none] [aI x3] h from ?_)
    refine go_iconst (v := (2 : Int32)) dX12_oldest_31 rfl ?_
    refine go_iloadn dX12_oldest_32 rfl ?_
    refine go_ishl dX12_oldest_33 ?_
    refine go_iconst (v := (1 : Int32)) dX12_oldest_34 rfl ?_
    refine go_isub dX12_oldest_35 ?_
    refine go_iand dX12_oldest_36 ?_
    obtain ⟨x4, ex4, H⟩ := bind_some H
    refine go_callS (vs := [aI (x3 &&& ((ishlF (2 : Int32) v2) - (1 : Int32)))]) (stk := []) (o1 := (some (aI x4), h)) mk_X12_ones ss_X12_oldest_300 dX12_oldest_37 rfl rfl (Nat.le_of_ble_eq_true rfl) (Nat.le_of_ble_eq_true rfl) (ok_X12_ones ex4) (show Go M_X12_oldest (some (aI r), h) 40 [some (aA v0), some (aI v1), some (aI v2), some (aI v3), some (aI v4), some (aI v5), none] [aI x4] h from ?_)
    refine go_istore (loc2 := [some (aA v0), some (aI v1), some (aI v2), some (aI v3), some (aI v4), some (aI v5), some (aI x4)]) dX12_oldest_40 (by decide) rfl ?_
    refine go_iload dX12_oldest_42 rfl ?_
    refine go_iload dX12_oldest_44 rfl ?_
    refine go_icmp_le (tgt := 54) dX12_oldest_46 (by decide) (fun c6 => ?_) (fun c6 => ?_)
    · rw [if_pos c6] at H
      refine go_iloadn dX12_oldest_54 rfl ?_
      refine go_mask [true, true, true, false, true, true, true] (loc' := [some (aA v0), some (aI v1), some (aI v2), none, some (aI v4), some (aI v5), some (aI x4)]) rfl ?_
      exact okj_X12_oldest_55 v0 v1 v2 v4 v5 x4 v3 h k Hk H
    · rw [if_neg c6] at H
      refine go_iload dX12_oldest_49 rfl ?_
      refine go_goto (tgt := 55) dX12_oldest_51 (by decide) ?_
      refine go_mask [true, true, true, false, true, true, true] (loc' := [some (aA v0), some (aI v1), some (aI v2), none, some (aI v4), some (aI v5), some (aI x4)]) rfl ?_
      exact okj_X12_oldest_55 v0 v1 v2 v4 v5 x4 v5 h k Hk H
def l_X12_oldest_8 (v0 : Nat) (v1 : Int32) (v2 : Int32) (h : Hp) (v3 : Int32) (v4 : Int32) (v5 : Int32) : Option Int32 := loopK FUEL (fun (k : Int32 × Int32 × Int32 → Option Int32) (s : Int32 × Int32 × Int32) => b_X12_oldest_8 v0 v1 v2 h (fun v3q v4q v5q => k (v3q, v4q, v5q)) s.1 s.2.1 s.2.2) (v3, v4, v5)
theorem okl_X12_oldest_8 {r : Int32} (v0 : Nat) (v1 : Int32) (v2 : Int32) (h : Hp) (v3 : Int32) (v4 : Int32) (v5 : Int32) (H : l_X12_oldest_8 v0 v1 v2 h v3 v4 v5 = some r) : Go M_X12_oldest (some (aI r), h) 8 [some (aA v0), some (aI v1), some (aI v2), some (aI v3), some (aI v4), some (aI v5), none] [] h := by
  unfold l_X12_oldest_8 at H
  exact go_loop (σ := Int32 × Int32 × Int32) (body := (fun (k : Int32 × Int32 × Int32 → Option Int32) (s : Int32 × Int32 × Int32) => b_X12_oldest_8 v0 v1 v2 h (fun v3q v4q v5q => k (v3q, v4q, v5q)) s.1 s.2.1 s.2.2)) (fun s => [some (aA v0), some (aI v1), some (aI v2), some (aI s.1), some (aI s.2.1), some (aI s.2.2), none]) (fun s => h) (fun k s Hk H => okb_X12_oldest_8 v0 v1 v2 h (fun v3q v4q v5q => k (v3q, v4q, v5q)) s.1 s.2.1 s.2.2  (fun v3q v4q v5q H => Hk (v3q, v4q, v5q) H) H) FUEL (v3, v4, v5) H
def m_X12_oldest (v0 : Nat) (v1 : Int32) (v2 : Int32) (h : Hp) : Option Int32 :=
  l_X12_oldest_8 v0 v1 v2 h (-1 : Int32) (0 : Int32) (0 : Int32)
set_option maxRecDepth 20000 in
theorem ok_X12_oldest {r : Int32} {v0 : Nat} {v1 : Int32} {v2 : Int32} {h : Hp} (H : m_X12_oldest v0 v1 v2 h = some r) : Ev M_X12_oldest [aA v0, aI v1, aI v2] h (some (aI r), h) := by
  show Go M_X12_oldest (some (aI r), h) 0 [some (aA v0), some (aI v1), some (aI v2), none, none, none, none] [] h
  unfold m_X12_oldest at H
  refine go_iconst (v := (-1 : Int32)) dX12_oldest_0 rfl ?_
  refine go_istoren (loc2 := [some (aA v0), some (aI v1), some (aI v2), some (aI (-1 : Int32)), none, none, none]) dX12_oldest_1 rfl (by decide) rfl ?_
  refine go_iconst (v := (0 : Int32)) dX12_oldest_2 rfl ?_
  refine go_istore (loc2 := [some (aA v0), some (aI v1), some (aI v2), some (aI (-1 : Int32)), some (aI (0 : Int32)), none, none]) dX12_oldest_3 (by decide) rfl ?_
  refine go_iconst (v := (0 : Int32)) dX12_oldest_5 rfl ?_
  refine go_istore (loc2 := [some (aA v0), some (aI v1), some (aI v2), some (aI (-1 : Int32)), some (aI (0 : Int32)), some (aI (0 : Int32)), none]) dX12_oldest_6 (by decide) rfl ?_
  exact okl_X12_oldest_8 v0 v1 v2 h (-1 : Int32) (0 : Int32) (0 : Int32) H
/-! X12_version -/
def j_X12_version_60  (s0 : Int32) (h : Hp) : Option (Int32 × Hp) :=
  some (s0, h)
set_option maxRecDepth 20000 in
theorem okj_X12_version_60 {r : (Int32 × Hp)}  (s0 : Int32) (h : Hp) (H : j_X12_version_60 s0 h = some r) : Go M_X12_version (some (aI r.1), r.2) 60 [none, none, none, none, none] [aI s0] h := by
  unfold j_X12_version_60 at H
  obtain rfl := Option.some.inj H
  exact go_ireturn dX12_version_60 (tyI_int rfl)
def m_X12_version (v0 : Nat) (v1 : Int32) (v2 : Int32) (v3 : Int32) (v4 : Int32) (h : Hp) : Option (Int32 × Hp) :=
  (pfI h v0 12 0 (0 : Int32)).bind fun hh1 => (rc hh1 v0 12 (m_X12_hand v0 v1 hh1)).bind fun x1 => if x1.1 = 0 then (some ((-1 : Int32), x1.2)) else (rc x1.2 v0 12 (m_X12_isVersion v0 v2 v3 x1.2)).bind fun x2 => if ¬ x2 = 0 then (if v4 < (10 : Int32) then (if v4 = (0 : Int32) then ((rc x1.2 v0 12 (m_X12_longOf v0 v2 v3 x1.2)).bind fun x3 => some (x3, x1.2)) else if v4 = (1 : Int32) then ((gfR x1.2 v0 12 18).bind fun x4 => (m_X12_at v2 v3 x1.2).bind fun x5 => (alI x1.2 x4 ((6 : Int32) + x5)).bind fun x6 => some (x6, x1.2)) else if v4 = (2 : Int32) then ((rc x1.2 v0 12 (m_X12_fresh v0 v2 v3 x1.2)).bind fun x7 => some (x7, x1.2)) else if v4 = (3 : Int32) then ((rc x1.2 v0 12 (m_X12_lost v0 v2 v3 x1.2)).bind fun x8 => some (x8, x1.2)) else if v4 = (4 : Int32) then ((rc x1.2 v0 12 (m_X12_turned v0 v2 v3 x1.2)).bind fun x9 => some (x9, x1.2)) else if v4 = (5 : Int32) then ((rc x1.2 v0 12 (m_X12_oldest v0 v2 v3 x1.2)).bind fun x10 => some (x10, x1.2)) else some ((-1 : Int32), x1.2)) else (rc x1.2 v0 12 (m_X12_longOf v0 v2 v3 x1.2)).bind fun x11 => if x11 ≤ (v4 - (10 : Int32)) then j_X12_version_60 (-1 : Int32) x1.2 else (rc x1.2 v0 12 (m_X12_wordAt v0 v2 v3 (v4 - (10 : Int32)) x1.2)).bind fun x12 => j_X12_version_60 x12 x1.2) else some ((-1 : Int32), x1.2)
set_option maxRecDepth 20000 in
theorem ok_X12_version {r : (Int32 × Hp)} {v0 : Nat} {v1 : Int32} {v2 : Int32} {v3 : Int32} {v4 : Int32} {h : Hp} (H : m_X12_version v0 v1 v2 v3 v4 h = some r) : Ev M_X12_version [aA v0, aI v1, aI v2, aI v3, aI v4] h (some (aI r.1), r.2) := by
  show Go M_X12_version (some (aI r.1), r.2) 0 [some (aA v0), some (aI v1), some (aI v2), some (aI v3), some (aI v4)] [] h
  unfold m_X12_version at H
  refine go_aloadn dX12_version_0 rfl ?_
  refine go_iconst (v := (0 : Int32)) dX12_version_1 rfl ?_
  refine gm_putI fd_X12_60 (Or.inl rfl) dX12_version_2 H (fun hh1 H => ?_)
  refine go_aloadn dX12_version_5 rfl ?_
  refine go_iloadn dX12_version_6 rfl ?_
  obtain ⟨c1, x1, ex1, H⟩ := gm_rc H
  refine go_callV (vs := [aI v1]) (stk := []) (o1 := (some (aI x1.1), x1.2)) mk_X12_hand sv_X12_version_313 cl_X12 rfl dX12_version_7 c1 rfl rfl (Nat.le_of_ble_eq_true rfl) (Nat.le_of_ble_eq_true rfl) (ok_X12_hand ex1) (show Go M_X12_version (some (aI r.1), r.2) 10 [some (aA v0), some (aI v1), some (aI v2), some (aI v3), some (aI v4)] [aI x1.1] x1.2 from ?_)
  refine go_if_eq (tgt := 22) dX12_version_10 (by decide) (fun c2 => ?_) (fun c2 => ?_)
  · replace H := (gm_ite H).1 c2
    refine go_iconst (v := (-1 : Int32)) dX12_version_22 rfl ?_
    obtain rfl := Option.some.inj H
    exact go_ireturn dX12_version_23 (tyI_int rfl)
  · replace H := (gm_ite H).2 c2
    refine go_aloadn dX12_version_13 rfl ?_
    refine go_iloadn dX12_version_14 rfl ?_
    refine go_iloadn dX12_version_15 rfl ?_
    obtain ⟨c3, x2, ex2, H⟩ := gm_rc H
    refine go_callV (vs := [aI v2, aI v3]) (stk := []) (o1 := (some (aI x2), x1.2)) mk_X12_isVersion sv_X12_version_284 cl_X12 rfl dX12_version_16 c3 rfl rfl (Nat.le_of_ble_eq_true rfl) (Nat.le_of_ble_eq_true rfl) (ok_X12_isVersion ex2) (show Go M_X12_version (some (aI r.1), r.2) 19 [some (aA v0), some (aI v1), some (aI v2), some (aI v3), some (aI v4)] [aI x2] x1.2 from ?_)
    refine go_if_ne (tgt := 24) dX12_version_19 (by decide) (fun c4 => ?_) (fun c4 => ?_)
    · replace H := (gm_ite H).1 c4
      refine go_iload dX12_version_24 rfl ?_
      refine go_bipush (v := (10 : Int32)) dX12_version_26 rfl ?_
      refine go_icmp_lt (tgt := 61) dX12_version_28 (by decide) (fun c5 => ?_) (fun c5 => ?_)
      · replace H := (gm_ite H).1 c5
        refine go_iload dX12_version_61 rfl ?_
        by_cases c6 : v4 = (0 : Int32)
        · replace H := (gm_ite H).1 c6
          refine go_eqI c6 ?_
          refine go_tableIn (tgt := 100) dX12_version_63 (by decide) (by decide) rfl (by decide) ?_
          refine go_aloadn dX12_version_100 rfl ?_
          refine go_iloadn dX12_version_101 rfl ?_
          refine go_iloadn dX12_version_102 rfl ?_
          obtain ⟨c7, x3, ex3, H⟩ := gm_rc H
          refine go_callV (vs := [aI v2, aI v3]) (stk := []) (o1 := (some (aI x3), x1.2)) mk_X12_longOf sv_X12_version_269 cl_X12 rfl dX12_version_103 c7 rfl rfl (Nat.le_of_ble_eq_true rfl) (Nat.le_of_ble_eq_true rfl) (ok_X12_longOf ex3) (show Go M_X12_version (some (aI r.1), r.2) 106 [some (aA v0), some (aI v1), some (aI v2), some (aI v3), some (aI v4)] [aI x3] x1.2 from ?_)
          obtain rfl := Option.some.inj H
          exact go_ireturn dX12_version_106 (tyI_int rfl)
        · replace H := (gm_ite H).2 c6
          by_cases c8 : v4 = (1 : Int32)
          · replace H := (gm_ite H).1 c8
            refine go_eqI c8 ?_
            refine go_tableIn (tgt := 107) dX12_version_63 (by decide) (by decide) rfl (by decide) ?_
            refine go_aloadn dX12_version_107 rfl ?_
            refine gm_getR fd_X12_35 dX12_version_108 H (fun x4 H => ?_)
            refine go_bipush (v := (6 : Int32)) dX12_version_111 rfl ?_
            refine go_iloadn dX12_version_113 rfl ?_
            refine go_iloadn dX12_version_114 rfl ?_
            obtain ⟨x5, ex5, H⟩ := bind_some H
            refine go_callS (vs := [aI v2, aI v3]) (stk := [aI (6 : Int32), aA x4]) (o1 := (some (aI x5), x1.2)) mk_X12_at ss_X12_version_146 dX12_version_115 rfl rfl (Nat.le_of_ble_eq_true rfl) (Nat.le_of_ble_eq_true rfl) (ok_X12_at ex5) (show Go M_X12_version (some (aI r.1), r.2) 118 [some (aA v0), some (aI v1), some (aI v2), some (aI v3), some (aI v4)] [aI x5, aI (6 : Int32), aA x4] x1.2 from ?_)
            refine go_iadd dX12_version_118 ?_
            refine gm_iald dX12_version_119 H (fun x6 H => ?_)
            obtain rfl := Option.some.inj H
            exact go_ireturn dX12_version_120 (tyI_int rfl)
          · replace H := (gm_ite H).2 c8
            by_cases c10 : v4 = (2 : Int32)
            · replace H := (gm_ite H).1 c10
              refine go_eqI c10 ?_
              refine go_tableIn (tgt := 121) dX12_version_63 (by decide) (by decide) rfl (by decide) ?_
              refine go_aloadn dX12_version_121 rfl ?_
              refine go_iloadn dX12_version_122 rfl ?_
              refine go_iloadn dX12_version_123 rfl ?_
              obtain ⟨c11, x7, ex7, H⟩ := gm_rc H
              refine go_callV (vs := [aI v2, aI v3]) (stk := []) (o1 := (some (aI x7), x1.2)) mk_X12_fresh sv_X12_version_340 cl_X12 rfl dX12_version_124 c11 rfl rfl (Nat.le_of_ble_eq_true rfl) (Nat.le_of_ble_eq_true rfl) (ok_X12_fresh ex7) (show Go M_X12_version (some (aI r.1), r.2) 127 [some (aA v0), some (aI v1), some (aI v2), some (aI v3), some (aI v4)] [aI x7] x1.2 from ?_)
              obtain rfl := Option.some.inj H
              exact go_ireturn dX12_version_127 (tyI_int rfl)
            · replace H := (gm_ite H).2 c10
              by_cases c12 : v4 = (3 : Int32)
              · replace H := (gm_ite H).1 c12
                refine go_eqI c12 ?_
                refine go_tableIn (tgt := 128) dX12_version_63 (by decide) (by decide) rfl (by decide) ?_
                refine go_aloadn dX12_version_128 rfl ?_
                refine go_iloadn dX12_version_129 rfl ?_
                refine go_iloadn dX12_version_130 rfl ?_
                obtain ⟨c13, x8, ex8, H⟩ := gm_rc H
                refine go_callV (vs := [aI v2, aI v3]) (stk := []) (o1 := (some (aI x8), x1.2)) mk_X12_lost sv_X12_version_343 cl_X12 rfl dX12_version_131 c13 rfl rfl (Nat.le_of_ble_eq_true rfl) (Nat.le_of_ble_eq_true rfl) (ok_X12_lost ex8) (show Go M_X12_version (some (aI r.1), r.2) 134 [some (aA v0), some (aI v1), some (aI v2), some (aI v3), some (aI v4)] [aI x8] x1.2 from ?_)
                obtain rfl := Option.some.inj H
                exact go_ireturn dX12_version_134 (tyI_int rfl)
              · replace H := (gm_ite H).2 c12
                by_cases c14 : v4 = (4 : Int32)
                · replace H := (gm_ite H).1 c14
                  refine go_eqI c14 ?_
                  refine go_tableIn (tgt := 135) dX12_version_63 (by decide) (by decide) rfl (by decide) ?_
                  refine go_aloadn dX12_version_135 rfl ?_
                  refine go_iloadn dX12_version_136 rfl ?_
                  refine go_iloadn dX12_version_137 rfl ?_
                  obtain ⟨c15, x9, ex9, H⟩ := gm_rc H
                  refine go_callV (vs := [aI v2, aI v3]) (stk := []) (o1 := (some (aI x9), x1.2)) mk_X12_turned sv_X12_version_346 cl_X12 rfl dX12_version_138 c15 rfl rfl (Nat.le_of_ble_eq_true rfl) (Nat.le_of_ble_eq_true rfl) (ok_X12_turned ex9) (show Go M_X12_version (some (aI r.1), r.2) 141 [some (aA v0), some (aI v1), some (aI v2), some (aI v3), some (aI v4)] [aI x9] x1.2 from ?_)
                  obtain rfl := Option.some.inj H
                  exact go_ireturn dX12_version_141 (tyI_int rfl)
                · replace H := (gm_ite H).2 c14
                  by_cases c16 : v4 = (5 : Int32)
                  · replace H := (gm_ite H).1 c16
                    refine go_eqI c16 ?_
                    refine go_tableIn (tgt := 142) dX12_version_63 (by decide) (by decide) rfl (by decide) ?_
                    refine go_aloadn dX12_version_142 rfl ?_
                    refine go_iloadn dX12_version_143 rfl ?_
                    refine go_iloadn dX12_version_144 rfl ?_
                    obtain ⟨c17, x10, ex10, H⟩ := gm_rc H
                    refine go_callV (vs := [aI v2, aI v3]) (stk := []) (o1 := (some (aI x10), x1.2)) mk_X12_oldest sv_X12_version_349 cl_X12 rfl dX12_version_145 c17 rfl rfl (Nat.le_of_ble_eq_true rfl) (Nat.le_of_ble_eq_true rfl) (ok_X12_oldest ex10) (show Go M_X12_version (some (aI r.1), r.2) 148 [some (aA v0), some (aI v1), some (aI v2), some (aI v3), some (aI v4)] [aI x10] x1.2 from ?_)
                    obtain rfl := Option.some.inj H
                    exact go_ireturn dX12_version_148 (tyI_int rfl)
                  · replace H := (gm_ite H).2 c16
                    refine go_tableOut (tgt := 149) dX12_version_63 (sw_out (fun i h1 h2 e => ?_)) (by decide) ?_
                    · have h3 : i = 0 ∨ i = 1 ∨ i = 2 ∨ i = 3 ∨ i = 4 ∨ i = 5 := by omega
                      rcases h3 with rfl | rfl | rfl | rfl | rfl | rfl
                      · exact sw_ne c6 (by decide) e
                      · exact sw_ne c8 (by decide) e
                      · exact sw_ne c10 (by decide) e
                      · exact sw_ne c12 (by decide) e
                      · exact sw_ne c14 (by decide) e
                      · exact sw_ne c16 (by decide) e
                    · skip
                      refine go_iconst (v := (-1 : Int32)) dX12_version_149 rfl ?_
                      obtain rfl := Option.some.inj H
                      exact go_ireturn dX12_version_150 (tyI_int rfl)
      · replace H := (gm_ite H).2 c5
        refine go_iload dX12_version_31 rfl ?_
        refine go_bipush (v := (10 : Int32)) dX12_version_33 rfl ?_
        refine go_isub dX12_version_35 ?_
        refine go_aloadn dX12_version_36 rfl ?_
        refine go_iloadn dX12_version_37 rfl ?_
        refine go_iloadn dX12_version_38 rfl ?_
        obtain ⟨c18, x11, ex11, H⟩ := gm_rc H
        refine go_callV (vs := [aI v2, aI v3]) (stk := [aI (v4 - (10 : Int32))]) (o1 := (some (aI x11), x1.2)) mk_X12_longOf sv_X12_version_269 cl_X12 rfl dX12_version_39 c18 rfl rfl (Nat.le_of_ble_eq_true rfl) (Nat.le_of_ble_eq_true rfl) (ok_X12_longOf ex11) (show Go M_X12_version (some (aI r.1), r.2) 42 [some (aA v0), some (aI v1), some (aI v2), some (aI v3), some (aI v4)] [aI x11, aI (v4 - (10 : Int32))] x1.2 from ?_)
        refine go_icmp_ge (tgt := 59) dX12_version_42 (by decide) (fun c19 => ?_) (fun c19 => ?_)
        · replace H := (gm_ite H).1 c19
          refine go_iconst (v := (-1 : Int32)) dX12_version_59 rfl ?_
          refine go_mask [false, false, false, false, false] (loc' := [none, none, none, none, none]) rfl ?_
          exact okj_X12_version_60 (-1 : Int32) x1.2  H
        · replace H := (gm_ite H).2 c19
          refine go_aloadn dX12_version_45 rfl ?_
          refine go_iloadn dX12_version_46 rfl ?_
          refine go_iloadn dX12_version_47 rfl ?_
          refine go_iload dX12_version_48 rfl ?_
          refine go_bipush (v := (10 : Int32)) dX12_version_50 rfl ?_
          refine go_isub dX12_version_52 ?_
          obtain ⟨c20, x12, ex12, H⟩ := gm_rc H
          refine go_callV (vs := [aI v2, aI v3, aI (v4 - (10 : Int32))]) (stk := []) (o1 := (some (aI x12), x1.2)) mk_X12_wordAt sv_X12_version_275 cl_X12 rfl dX12_version_53 c20 rfl rfl (Nat.le_of_ble_eq_true rfl) (Nat.le_of_ble_eq_true rfl) (ok_X12_wordAt ex12) (show Go M_X12_version (some (aI r.1), r.2) 56 [some (aA v0), some (aI v1), some (aI v2), some (aI v3), some (aI v4)] [aI x12] x1.2 from ?_)
          refine go_goto (tgt := 60) dX12_version_56 (by decide) ?_
          refine go_mask [false, false, false, false, false] (loc' := [none, none, none, none, none]) rfl ?_
          exact okj_X12_version_60 x12 x1.2  H
    · replace H := (gm_ite H).2 c4
      refine go_iconst (v := (-1 : Int32)) dX12_version_22 rfl ?_
      obtain rfl := Option.some.inj H
      exact go_ireturn dX12_version_23 (tyI_int rfl)
/-! X5_lastBit -/
def j_X5_lastBit_21 (v0 : Int32) (v1 : Int32) (v2 : Int32)  (h : Hp) (k : Int32 → Int32 → Option Int32) : Option Int32 :=
  k v1 (v2 + (1 : Int32))
set_option maxRecDepth 20000 in
theorem okj_X5_lastBit_21 {r : Int32} (v0 : Int32) (v1 : Int32) (v2 : Int32)  (h : Hp) (k : Int32 → Int32 → Option Int32) (Hk : ∀ (v1q : Int32) (v2q : Int32), k v1q v2q = some r → Go M_X5_lastBit (some (aI r), h) 4 [some (aI v0), some (aI v1q), some (aI v2q)] [] h) (H : j_X5_lastBit_21 v0 v1 v2 h k = some r) : Go M_X5_lastBit (some (aI r), h) 21 [some (aI v0), some (aI v1), some (aI v2)] [] h := by
  unfold j_X5_lastBit_21 at H
  refine go_iinc (v := (v2 + (1 : Int32))) (loc2 := [some (aI v0), some (aI v1), some (aI (v2 + (1 : Int32)))]) dX5_lastBit_21 rfl rfl (by decide) rfl ?_
  refine go_goto (tgt := 4) dX5_lastBit_24 (by decide) ?_
  exact Hk v1 (v2 + (1 : Int32)) H
def b_X5_lastBit_4 (v0 : Int32) (h : Hp) (k : Int32 → Int32 → Option Int32) (v1 : Int32) (v2 : Int32) : Option Int32 :=
  if (32 : Int32) ≤ v2 then (some v1) else (m_X5_bit v0 v2 h).bind fun x1 => if ¬ x1 = (1 : Int32) then j_X5_lastBit_21 v0 v1 v2 h k else j_X5_lastBit_21 v0 v2 v2 h k
set_option maxRecDepth 20000 in
theorem okb_X5_lastBit_4 {r : Int32} (v0 : Int32) (h : Hp) (k : Int32 → Int32 → Option Int32) (v1 : Int32) (v2 : Int32) (Hk : ∀ (v1q : Int32) (v2q : Int32), k v1q v2q = some r → Go M_X5_lastBit (some (aI r), h) 4 [some (aI v0), some (aI v1q), some (aI v2q)] [] h) (H : b_X5_lastBit_4 v0 h k v1 v2 = some r) : Go M_X5_lastBit (some (aI r), h) 4 [some (aI v0), some (aI v1), some (aI v2)] [] h := by
  unfold b_X5_lastBit_4 at H
  refine go_iloadn dX5_lastBit_4 rfl ?_
  refine go_bipush (v := (32 : Int32)) dX5_lastBit_5 rfl ?_
  refine go_icmp_ge (tgt := 27) dX5_lastBit_7 (by decide) (fun c1 => ?_) (fun c1 => ?_)
  · replace H := (gm_ite H).1 c1
    refine go_iloadn dX5_lastBit_27 rfl ?_
    obtain rfl := Option.some.inj H
    exact go_ireturn dX5_lastBit_28 (tyI_int rfl)
  · replace H := (gm_ite H).2 c1
    refine go_iloadn dX5_lastBit_10 rfl ?_
    refine go_iloadn dX5_lastBit_11 rfl ?_
    obtain ⟨x1, ex1, H⟩ := bind_some H
    refine go_callS (vs := [aI v0, aI v2]) (stk := []) (o1 := (some (aI x1), h)) mk_X5_bit ss_X5_lastBit_29 dX5_lastBit_12 rfl rfl (Nat.le_of_ble_eq_true rfl) (Nat.le_of_ble_eq_true rfl) (ok_X5_bit ex1) (show Go M_X5_lastBit (some (aI r), h) 15 [some (aI v0), some (aI v1), some (aI v2)] [aI x1] h from ?_)
    refine go_iconst (v := (1 : Int32)) dX5_lastBit_15 rfl ?_
    refine go_icmp_ne (tgt := 21) dX5_lastBit_16 (by decide) (fun c3 => ?_) (fun c3 => ?_)
    · replace H := (gm_ite H).1 c3
      exact okj_X5_lastBit_21 v0 v1 v2 h k Hk H
    · replace H := (gm_ite H).2 c3
      refine go_iloadn dX5_lastBit_19 rfl ?_
      refine go_istoren (loc2 := [some (aI v0), some (aI v2), some (aI v2)]) dX5_lastBit_20 rfl (by decide) rfl ?_
      exact okj_X5_lastBit_21 v0 v2 v2 h k Hk H
def l_X5_lastBit_4 (v0 : Int32) (h : Hp) (v1 : Int32) (v2 : Int32) : Option Int32 := loopK FUEL (fun (k : Int32 × Int32 → Option Int32) (s : Int32 × Int32) => b_X5_lastBit_4 v0 h (fun v1q v2q => k (v1q, v2q)) s.1 s.2) (v1, v2)
theorem okl_X5_lastBit_4 {r : Int32} (v0 : Int32) (h : Hp) (v1 : Int32) (v2 : Int32) (H : l_X5_lastBit_4 v0 h v1 v2 = some r) : Go M_X5_lastBit (some (aI r), h) 4 [some (aI v0), some (aI v1), some (aI v2)] [] h := by
  unfold l_X5_lastBit_4 at H
  exact go_loop (σ := Int32 × Int32) (body := (fun (k : Int32 × Int32 → Option Int32) (s : Int32 × Int32) => b_X5_lastBit_4 v0 h (fun v1q v2q => k (v1q, v2q)) s.1 s.2)) (fun s => [some (aI v0), some (aI s.1), some (aI s.2)]) (fun s => h) (fun k s Hk H => okb_X5_lastBit_4 v0 h (fun v1q v2q => k (v1q, v2q)) s.1 s.2  (fun v1q v2q H => Hk (v1q, v2q) H) H) FUEL (v1, v2) H
def m_X5_lastBit (v0 : Int32) (h : Hp) : Option Int32 :=
  l_X5_lastBit_4 v0 h (-1 : Int32) (0 : Int32)
set_option maxRecDepth 20000 in
theorem ok_X5_lastBit {r : Int32} {v0 : Int32} {h : Hp} (H : m_X5_lastBit v0 h = some r) : Ev M_X5_lastBit [aI v0] h (some (aI r), h) := by
  show Go M_X5_lastBit (some (aI r), h) 0 [some (aI v0), none, none] [] h
  unfold m_X5_lastBit at H
  refine go_iconst (v := (-1 : Int32)) dX5_lastBit_0 rfl ?_
  refine go_istoren (loc2 := [some (aI v0), some (aI (-1 : Int32)), none]) dX5_lastBit_1 rfl (by decide) rfl ?_
  refine go_iconst (v := (0 : Int32)) dX5_lastBit_2 rfl ?_
  refine go_istoren (loc2 := [some (aI v0), some (aI (-1 : Int32)), some (aI (0 : Int32))]) dX5_lastBit_3 rfl (by decide) rfl ?_
  exact okl_X5_lastBit_4 v0 h (-1 : Int32) (0 : Int32) H
/-! X11_life -/
def m_X11_life (v0 : Nat) (v1 : Int32) (v2 : Int32) (v3 : Int32) (v4 : Int32) (v5 : Int32) (h : Hp) : Option Int32 :=
  (gfR h v0 11 0).bind fun x1 => (rc h x1 9 (m_X9_archiveAt x1 v1 h)).bind fun x2 => (nz x2).bind fun _ => if x2 = 0 then (some (-1 : Int32)) else (rc h x2 1 (m_X0_hasPlace x2 v2 v3 v4 h)).bind fun x3 => if ¬ x3 = 0 then ((rc h x2 1 (m_X0_tokenAt x2 v2 v3 v4 h)).bind fun x4 => (rc h x2 1 (m_X0_stayOf x2 x4 h)).bind fun x5 => if v5 = (0 : Int32) then ((m_X5_firstBit x5 h).bind fun x6 => some x6) else if v5 = (1 : Int32) then ((m_X5_lastBit x5 h).bind fun x7 => some x7) else if v5 = (2 : Int32) then ((m_J6_bitCount_0f7a4 x5 h).bind fun x8 => some x8) else if v5 = (3 : Int32) then ((m_X5_runs x5 h).bind fun x9 => some x9) else some (-1 : Int32)) else some (-1 : Int32)
set_option maxRecDepth 20000 in
theorem ok_X11_life {r : Int32} {v0 : Nat} {v1 : Int32} {v2 : Int32} {v3 : Int32} {v4 : Int32} {v5 : Int32} {h : Hp} (H : m_X11_life v0 v1 v2 v3 v4 v5 h = some r) : Ev M_X11_life [aA v0, aI v1, aI v2, aI v3, aI v4, aI v5] h (some (aI r), h) := by
  show Go M_X11_life (some (aI r), h) 0 [some (aA v0), some (aI v1), some (aI v2), some (aI v3), some (aI v4), some (aI v5), none, none] [] h
  unfold m_X11_life at H
  refine go_aloadn dX11_life_0 rfl ?_
  refine gm_getR fd_X11_10 dX11_life_1 H (fun x1 H => ?_)
  refine go_iloadn dX11_life_4 rfl ?_
  obtain ⟨c1, x2, ex2, H⟩ := gm_rc H
  refine go_callV (vs := [aI v1]) (stk := []) (o1 := (some (aA x2), h)) mk_X9_archiveAt sv_X11_life_86 cl_X9 rfl dX11_life_5 c1 rfl rfl (Nat.le_of_ble_eq_true rfl) (Nat.le_of_ble_eq_true rfl) (ok_X9_archiveAt ex2) (show Go M_X11_life (some (aI r), h) 8 [some (aA v0), some (aI v1), some (aI v2), some (aI v3), some (aI v4), some (aI v5), none, none] [aA x2] h from ?_)
  refine go_astore (loc2 := [some (aA v0), some (aI v1), some (aI v2), some (aI v3), some (aI v4), some (aI v5), some (aA x2), none]) dX11_life_8 (by decide) rfl ?_
  refine go_aload dX11_life_10 rfl ?_
  obtain ⟨c3, H⟩ := gm_nz H
  refine go_ifnull (tgt := 27) dX11_life_12 (by decide) c3 (fun c2 => ?_) (fun c2 => ?_)
  · replace H := (gm_ite H).1 c2
    refine go_iconst (v := (-1 : Int32)) dX11_life_27 rfl ?_
    obtain rfl := Option.some.inj H
    exact go_ireturn dX11_life_28 (tyI_int rfl)
  · replace H := (gm_ite H).2 c2
    refine go_aload dX11_life_15 rfl ?_
    refine go_iloadn dX11_life_17 rfl ?_
    refine go_iloadn dX11_life_18 rfl ?_
    refine go_iload dX11_life_19 rfl ?_
    obtain ⟨c4, x3, ex3, H⟩ := gm_rc H
    refine go_callV (vs := [aI v2, aI v3, aI v4]) (stk := []) (o1 := (some (aI x3), h)) mk_X0_hasPlace sv_X11_life_167 cl_X0 rfl dX11_life_21 c4 rfl rfl (Nat.le_of_ble_eq_true rfl) (Nat.le_of_ble_eq_true rfl) (ok_X0_hasPlace ex3) (show Go M_X11_life (some (aI r), h) 24 [some (aA v0), some (aI v1), some (aI v2), some (aI v3), some (aI v4), some (aI v5), some (aA x2), none] [aI x3] h from ?_)
    refine go_if_ne (tgt := 29) dX11_life_24 (by decide) (fun c5 => ?_) (fun c5 => ?_)
    · replace H := (gm_ite H).1 c5
      refine go_aload dX11_life_29 rfl ?_
      refine go_aload dX11_life_31 rfl ?_
      refine go_iloadn dX11_life_33 rfl ?_
      refine go_iloadn dX11_life_34 rfl ?_
      refine go_iload dX11_life_35 rfl ?_
      obtain ⟨c6, x4, ex4, H⟩ := gm_rc H
      refine go_callV (vs := [aI v2, aI v3, aI v4]) (stk := [aA x2]) (o1 := (some (aI x4), h)) mk_X0_tokenAt sv_X11_life_171 cl_X0 rfl dX11_life_37 c6 rfl rfl (Nat.le_of_ble_eq_true rfl) (Nat.le_of_ble_eq_true rfl) (ok_X0_tokenAt ex4) (show Go M_X11_life (some (aI r), h) 40 [some (aA v0), some (aI v1), some (aI v2), some (aI v3), some (aI v4), some (aI v5), some (aA x2), none] [aI x4, aA x2] h from ?_)
      obtain ⟨c7, x5, ex5, H⟩ := gm_rc H
      refine go_callV (vs := [aI x4]) (stk := []) (o1 := (some (aI x5), h)) mk_X0_stayOf sv_X11_life_174 cl_X0 rfl dX11_life_40 c7 rfl rfl (Nat.le_of_ble_eq_true rfl) (Nat.le_of_ble_eq_true rfl) (ok_X0_stayOf ex5) (show Go M_X11_life (some (aI r), h) 43 [some (aA v0), some (aI v1), some (aI v2), some (aI v3), some (aI v4), some (aI v5), some (aA x2), none] [aI x5] h from ?_)
      refine go_istore (loc2 := [some (aA v0), some (aI v1), some (aI v2), some (aI v3), some (aI v4), some (aI v5), some (aA x2), some (aI x5)]) dX11_life_43 (by decide) rfl ?_
      refine go_iload dX11_life_45 rfl ?_
      by_cases c8 : v5 = (0 : Int32)
      · replace H := (gm_ite H).1 c8
        refine go_eqI c8 ?_
        refine go_tableIn (tgt := 76) dX11_life_47 (by decide) (by decide) rfl (by decide) ?_
        refine go_iload dX11_life_76 rfl ?_
        obtain ⟨x6, ex6, H⟩ := bind_some H
        refine go_callS (vs := [aI x5]) (stk := []) (o1 := (some (aI x6), h)) mk_X5_firstBit ss_X11_life_177 dX11_life_78 rfl rfl (Nat.le_of_ble_eq_true rfl) (Nat.le_of_ble_eq_true rfl) (ok_X5_firstBit ex6) (show Go M_X11_life (some (aI r), h) 81 [some (aA v0), some (aI v1), some (aI v2), some (aI v3), some (aI v4), some (aI v5), some (aA x2), some (aI x5)] [aI x6] h from ?_)
        obtain rfl := Option.some.inj H
        exact go_ireturn dX11_life_81 (tyI_int rfl)
      · replace H := (gm_ite H).2 c8
        by_cases c10 : v5 = (1 : Int32)
        · replace H := (gm_ite H).1 c10
          refine go_eqI c10 ?_
          refine go_tableIn (tgt := 82) dX11_life_47 (by decide) (by decide) rfl (by decide) ?_
          refine go_iload dX11_life_82 rfl ?_
          obtain ⟨x7, ex7, H⟩ := bind_some H
          refine go_callS (vs := [aI x5]) (stk := []) (o1 := (some (aI x7), h)) mk_X5_lastBit ss_X11_life_182 dX11_life_84 rfl rfl (Nat.le_of_ble_eq_true rfl) (Nat.le_of_ble_eq_true rfl) (ok_X5_lastBit ex7) (show Go M_X11_life (some (aI r), h) 87 [some (aA v0), some (aI v1), some (aI v2), some (aI v3), some (aI v4), some (aI v5), some (aA x2), some (aI x5)] [aI x7] h from ?_)
          obtain rfl := Option.some.inj H
          exact go_ireturn dX11_life_87 (tyI_int rfl)
        · replace H := (gm_ite H).2 c10
          by_cases c12 : v5 = (2 : Int32)
          · replace H := (gm_ite H).1 c12
            refine go_eqI c12 ?_
            refine go_tableIn (tgt := 88) dX11_life_47 (by decide) (by decide) rfl (by decide) ?_
            refine go_iload dX11_life_88 rfl ?_
            obtain ⟨x8, ex8, H⟩ := bind_some H
            refine go_callS (vs := [aI x5]) (stk := []) (o1 := (some (aI x8), h)) mk_J6_bitCount_0f7a4 ss_X11_life_185 dX11_life_90 rfl rfl (Nat.le_of_ble_eq_true rfl) (Nat.le_of_ble_eq_true rfl) (ok_J6_bitCount_0f7a4 ex8) (show Go M_X11_life (some (aI r), h) 93 [some (aA v0), some (aI v1), some (aI v2), some (aI v3), some (aI v4), some (aI v5), some (aA x2), some (aI x5)] [aI x8] h from ?_)
            obtain rfl := Option.some.inj H
            exact go_ireturn dX11_life_93 (tyI_int rfl)
          · replace H := (gm_ite H).2 c12
            by_cases c14 : v5 = (3 : Int32)
            · replace H := (gm_ite H).1 c14
              refine go_eqI c14 ?_
              refine go_tableIn (tgt := 94) dX11_life_47 (by decide) (by decide) rfl (by decide) ?_
              refine go_iload dX11_life_94 rfl ?_
              obtain ⟨x9, ex9, H⟩ := bind_some H
              refine go_callS (vs := [aI x5]) (stk := []) (o1 := (some (aI x9), h)) mk_X5_runs ss_X11_life_190 dX11_life_96 rfl rfl (Nat.le_of_ble_eq_true rfl) (Nat.le_of_ble_eq_true rfl) (ok_X5_runs ex9) (show Go M_X11_life (some (aI r), h) 99 [some (aA v0), some (aI v1), some (aI v2), some (aI v3), some (aI v4), some (aI v5), some (aA x2), some (aI x5)] [aI x9] h from ?_)
              obtain rfl := Option.some.inj H
              exact go_ireturn dX11_life_99 (tyI_int rfl)
            · replace H := (gm_ite H).2 c14
              refine go_tableOut (tgt := 100) dX11_life_47 (sw_out (fun i h1 h2 e => ?_)) (by decide) ?_
              · have h3 : i = 0 ∨ i = 1 ∨ i = 2 ∨ i = 3 := by omega
                rcases h3 with rfl | rfl | rfl | rfl
                · exact sw_ne c8 (by decide) e
                · exact sw_ne c10 (by decide) e
                · exact sw_ne c12 (by decide) e
                · exact sw_ne c14 (by decide) e
              · skip
                refine go_iconst (v := (-1 : Int32)) dX11_life_100 rfl ?_
                obtain rfl := Option.some.inj H
                exact go_ireturn dX11_life_101 (tyI_int rfl)
    · replace H := (gm_ite H).2 c5
      refine go_iconst (v := (-1 : Int32)) dX11_life_27 rfl ?_
      obtain rfl := Option.some.inj H
      exact go_ireturn dX11_life_28 (tyI_int rfl)
/-! X12_firstIn -/
def b_X12_firstIn_2 (v0 : Int32) (h : Hp) (k : Int32 → Option Int32) (v1 : Int32) : Option Int32 :=
  (m_X12_has v0 v1 h).bind fun x1 => if ¬ x1 = 0 then (some v1) else k (v1 + (1 : Int32))
set_option maxRecDepth 20000 in
theorem okb_X12_firstIn_2 {r : Int32} (v0 : Int32) (h : Hp) (k : Int32 → Option Int32) (v1 : Int32) (Hk : ∀ (v1q : Int32), k v1q = some r → Go M_X12_firstIn (some (aI r), h) 2 [some (aI v0), some (aI v1q)] [] h) (H : b_X12_firstIn_2 v0 h k v1 = some r) : Go M_X12_firstIn (some (aI r), h) 2 [some (aI v0), some (aI v1)] [] h := by
  unfold b_X12_firstIn_2 at H
  refine go_iloadn dX12_firstIn_2 rfl ?_
  refine go_iloadn dX12_firstIn_3 rfl ?_
  obtain ⟨x1, ex1, H⟩ := bind_some H
  refine go_callS (vs := [aI v0, aI v1]) (stk := []) (o1 := (some (aI x1), h)) mk_X12_has ss_X12_firstIn_64 dX12_firstIn_4 rfl rfl (Nat.le_of_ble_eq_true rfl) (Nat.le_of_ble_eq_true rfl) (ok_X12_has ex1) (show Go M_X12_firstIn (some (aI r), h) 7 [some (aI v0), some (aI v1)] [aI x1] h from ?_)
  refine go_if_ne (tgt := 16) dX12_firstIn_7 (by decide) (fun c2 => ?_) (fun c2 => ?_)
  · replace H := (gm_ite H).1 c2
    refine go_iloadn dX12_firstIn_16 rfl ?_
    obtain rfl := Option.some.inj H
    exact go_ireturn dX12_firstIn_17 (tyI_int rfl)
  · replace H := (gm_ite H).2 c2
    refine go_iinc (v := (v1 + (1 : Int32))) (loc2 := [some (aI v0), some (aI (v1 + (1 : Int32)))]) dX12_firstIn_10 rfl rfl (by decide) rfl ?_
    refine go_goto (tgt := 2) dX12_firstIn_13 (by decide) ?_
    exact Hk (v1 + (1 : Int32)) H
def l_X12_firstIn_2 (v0 : Int32) (h : Hp) (v1 : Int32) : Option Int32 := loopK FUEL (fun (k : Int32 → Option Int32) (s : Int32) => b_X12_firstIn_2 v0 h (fun v1q => k v1q) s) v1
theorem okl_X12_firstIn_2 {r : Int32} (v0 : Int32) (h : Hp) (v1 : Int32) (H : l_X12_firstIn_2 v0 h v1 = some r) : Go M_X12_firstIn (some (aI r), h) 2 [some (aI v0), some (aI v1)] [] h := by
  unfold l_X12_firstIn_2 at H
  exact go_loop (σ := Int32) (body := (fun (k : Int32 → Option Int32) (s : Int32) => b_X12_firstIn_2 v0 h (fun v1q => k v1q) s)) (fun s => [some (aI v0), some (aI s)]) (fun s => h) (fun k s Hk H => okb_X12_firstIn_2 v0 h (fun v1q => k v1q) s  (fun v1q H => Hk v1q H) H) FUEL v1 H
def m_X12_firstIn (v0 : Int32) (h : Hp) : Option Int32 :=
  l_X12_firstIn_2 v0 h (0 : Int32)
set_option maxRecDepth 20000 in
theorem ok_X12_firstIn {r : Int32} {v0 : Int32} {h : Hp} (H : m_X12_firstIn v0 h = some r) : Ev M_X12_firstIn [aI v0] h (some (aI r), h) := by
  show Go M_X12_firstIn (some (aI r), h) 0 [some (aI v0), none] [] h
  unfold m_X12_firstIn at H
  refine go_iconst (v := (0 : Int32)) dX12_firstIn_0 rfl ?_
  refine go_istoren (loc2 := [some (aI v0), some (aI (0 : Int32))]) dX12_firstIn_1 rfl (by decide) rfl ?_
  exact okl_X12_firstIn_2 v0 h (0 : Int32) H
/-! X12_lastIn -/
def j_X12_lastIn_23 (v0 : Int32) (v2 : Int32) (s0 : Int32) (h : Hp) (k : Int32 → Int32 → Option Int32) : Option Int32 :=
  k s0 (v2 + (1 : Int32))
set_option maxRecDepth 20000 in
theorem okj_X12_lastIn_23 {r : Int32} (v0 : Int32) (v2 : Int32) (s0 : Int32) (h : Hp) (k : Int32 → Int32 → Option Int32) (Hk : ∀ (v1q : Int32) (v2q : Int32), k v1q v2q = some r → Go M_X12_lastIn (some (aI r), h) 4 [some (aI v0), some (aI v1q), some (aI v2q)] [] h) (H : j_X12_lastIn_23 v0 v2 s0 h k = some r) : Go M_X12_lastIn (some (aI r), h) 23 [some (aI v0), none, some (aI v2)] [aI s0] h := by
  unfold j_X12_lastIn_23 at H
  refine go_istoren (loc2 := [some (aI v0), some (aI s0), some (aI v2)]) dX12_lastIn_23 rfl (by decide) rfl ?_
  refine go_iinc (v := (v2 + (1 : Int32))) (loc2 := [some (aI v0), some (aI s0), some (aI (v2 + (1 : Int32)))]) dX12_lastIn_24 rfl rfl (by decide) rfl ?_
  refine go_goto (tgt := 4) dX12_lastIn_27 (by decide) ?_
  exact Hk s0 (v2 + (1 : Int32)) H
def b_X12_lastIn_4 (v0 : Int32) (h : Hp) (k : Int32 → Int32 → Option Int32) (v1 : Int32) (v2 : Int32) : Option Int32 :=
  if (10 : Int32) ≤ v2 then (some v1) else (m_X12_has v0 v2 h).bind fun x1 => j_X12_lastIn_23 v0 v2 (if x1 = 0 then v1 else v2) h k
set_option maxRecDepth 20000 in
theorem okb_X12_lastIn_4 {r : Int32} (v0 : Int32) (h : Hp) (k : Int32 → Int32 → Option Int32) (v1 : Int32) (v2 : Int32) (Hk : ∀ (v1q : Int32) (v2q : Int32), k v1q v2q = some r → Go M_X12_lastIn (some (aI r), h) 4 [some (aI v0), some (aI v1q), some (aI v2q)] [] h) (H : b_X12_lastIn_4 v0 h k v1 v2 = some r) : Go M_X12_lastIn (some (aI r), h) 4 [some (aI v0), some (aI v1), some (aI v2)] [] h := by
  unfold b_X12_lastIn_4 at H
  refine go_iloadn dX12_lastIn_4 rfl ?_
  refine go_bipush (v := (10 : Int32)) dX12_lastIn_5 rfl ?_
  refine go_icmp_ge (tgt := 30) dX12_lastIn_7 (by decide) (fun c1 => ?_) (fun c1 => ?_)
  · replace H := (gm_ite H).1 c1
    refine go_iloadn dX12_lastIn_30 rfl ?_
    obtain rfl := Option.some.inj H
    exact go_ireturn dX12_lastIn_31 (tyI_int rfl)
  · replace H := (gm_ite H).2 c1
    refine go_iloadn dX12_lastIn_10 rfl ?_
    refine go_iloadn dX12_lastIn_11 rfl ?_
    obtain ⟨x1, ex1, H⟩ := bind_some H
    refine go_callS (vs := [aI v0, aI v2]) (stk := []) (o1 := (some (aI x1), h)) mk_X12_has ss_X12_lastIn_64 dX12_lastIn_12 rfl rfl (Nat.le_of_ble_eq_true rfl) (Nat.le_of_ble_eq_true rfl) (ok_X12_has ex1) (show Go M_X12_lastIn (some (aI r), h) 15 [some (aI v0), some (aI v1), some (aI v2)] [aI x1] h from ?_)
    refine go_if_eq (tgt := 22) dX12_lastIn_15 (by decide) (fun c3 => ?_) (fun c3 => ?_)
    · rw [if_pos c3] at H
      refine go_iloadn dX12_lastIn_22 rfl ?_
      refine go_mask [true, false, true] (loc' := [some (aI v0), none, some (aI v2)]) rfl ?_
      exact okj_X12_lastIn_23 v0 v2 v1 h k Hk H
    · rw [if_neg c3] at H
      refine go_iloadn dX12_lastIn_18 rfl ?_
      refine go_goto (tgt := 23) dX12_lastIn_19 (by decide) ?_
      refine go_mask [true, false, true] (loc' := [some (aI v0), none, some (aI v2)]) rfl ?_
      exact okj_X12_lastIn_23 v0 v2 v2 h k Hk H
def l_X12_lastIn_4 (v0 : Int32) (h : Hp) (v1 : Int32) (v2 : Int32) : Option Int32 := loopK FUEL (fun (k : Int32 × Int32 → Option Int32) (s : Int32 × Int32) => b_X12_lastIn_4 v0 h (fun v1q v2q => k (v1q, v2q)) s.1 s.2) (v1, v2)
theorem okl_X12_lastIn_4 {r : Int32} (v0 : Int32) (h : Hp) (v1 : Int32) (v2 : Int32) (H : l_X12_lastIn_4 v0 h v1 v2 = some r) : Go M_X12_lastIn (some (aI r), h) 4 [some (aI v0), some (aI v1), some (aI v2)] [] h := by
  unfold l_X12_lastIn_4 at H
  exact go_loop (σ := Int32 × Int32) (body := (fun (k : Int32 × Int32 → Option Int32) (s : Int32 × Int32) => b_X12_lastIn_4 v0 h (fun v1q v2q => k (v1q, v2q)) s.1 s.2)) (fun s => [some (aI v0), some (aI s.1), some (aI s.2)]) (fun s => h) (fun k s Hk H => okb_X12_lastIn_4 v0 h (fun v1q v2q => k (v1q, v2q)) s.1 s.2  (fun v1q v2q H => Hk (v1q, v2q) H) H) FUEL (v1, v2) H
def m_X12_lastIn (v0 : Int32) (h : Hp) : Option Int32 :=
  l_X12_lastIn_4 v0 h (-1 : Int32) (0 : Int32)
set_option maxRecDepth 20000 in
theorem ok_X12_lastIn {r : Int32} {v0 : Int32} {h : Hp} (H : m_X12_lastIn v0 h = some r) : Ev M_X12_lastIn [aI v0] h (some (aI r), h) := by
  show Go M_X12_lastIn (some (aI r), h) 0 [some (aI v0), none, none] [] h
  unfold m_X12_lastIn at H
  refine go_iconst (v := (-1 : Int32)) dX12_lastIn_0 rfl ?_
  refine go_istoren (loc2 := [some (aI v0), some (aI (-1 : Int32)), none]) dX12_lastIn_1 rfl (by decide) rfl ?_
  refine go_iconst (v := (0 : Int32)) dX12_lastIn_2 rfl ?_
  refine go_istoren (loc2 := [some (aI v0), some (aI (-1 : Int32)), some (aI (0 : Int32))]) dX12_lastIn_3 rfl (by decide) rfl ?_
  exact okl_X12_lastIn_4 v0 h (-1 : Int32) (0 : Int32) H
/-! X12_life -/
def m_X12_life (v0 : Nat) (v1 : Int32) (v2 : Int32) (v3 : Int32) (v4 : Int32) (v5 : Int32) (h : Hp) : Option (Int32 × Hp) :=
  (pfI h v0 12 0 (0 : Int32)).bind fun hh1 => (rc hh1 v0 12 (m_X12_hand v0 v1 hh1)).bind fun x1 => if x1.1 = 0 then (some ((-1 : Int32), x1.2)) else (rc x1.2 v0 12 (m_X12_isVersion v0 v2 v3 x1.2)).bind fun x2 => if x2 = 0 then (some ((-1 : Int32), x1.2)) else (rc x1.2 v0 12 (m_X12_longOf v0 v2 v3 x1.2)).bind fun x3 => (m_X12_in v4 (0 : Int32) (x3 - (1 : Int32)) x1.2).bind fun x4 => if ¬ x4 = 0 then ((rc x1.2 v0 12 (m_X12_tokenAt v0 v2 v3 v4 x1.2)).bind fun x5 => (rc x1.2 v0 12 (m_X12_whereIs v0 x5 x1.2)).bind fun x6 => if v5 = (0 : Int32) then ((m_X12_firstIn x6 x1.2).bind fun x7 => some (x7, x1.2)) else if v5 = (1 : Int32) then ((m_X12_lastIn x6 x1.2).bind fun x8 => some (x8, x1.2)) else if v5 = (2 : Int32) then ((m_X12_ones x6 x1.2).bind fun x9 => some (x9, x1.2)) else if v5 = (3 : Int32) then ((m_X12_rowsIn x6 x1.2).bind fun x10 => some (x10, x1.2)) else some ((-1 : Int32), x1.2)) else some ((-1 : Int32), x1.2)
set_option maxRecDepth 20000 in
theorem ok_X12_life {r : (Int32 × Hp)} {v0 : Nat} {v1 : Int32} {v2 : Int32} {v3 : Int32} {v4 : Int32} {v5 : Int32} {h : Hp} (H : m_X12_life v0 v1 v2 v3 v4 v5 h = some r) : Ev M_X12_life [aA v0, aI v1, aI v2, aI v3, aI v4, aI v5] h (some (aI r.1), r.2) := by
  show Go M_X12_life (some (aI r.1), r.2) 0 [some (aA v0), some (aI v1), some (aI v2), some (aI v3), some (aI v4), some (aI v5), none] [] h
  unfold m_X12_life at H
  refine go_aloadn dX12_life_0 rfl ?_
  refine go_iconst (v := (0 : Int32)) dX12_life_1 rfl ?_
  refine gm_putI fd_X12_60 (Or.inl rfl) dX12_life_2 H (fun hh1 H => ?_)
  refine go_aloadn dX12_life_5 rfl ?_
  refine go_iloadn dX12_life_6 rfl ?_
  obtain ⟨c1, x1, ex1, H⟩ := gm_rc H
  refine go_callV (vs := [aI v1]) (stk := []) (o1 := (some (aI x1.1), x1.2)) mk_X12_hand sv_X12_life_313 cl_X12 rfl dX12_life_7 c1 rfl rfl (Nat.le_of_ble_eq_true rfl) (Nat.le_of_ble_eq_true rfl) (ok_X12_hand ex1) (show Go M_X12_life (some (aI r.1), r.2) 10 [some (aA v0), some (aI v1), some (aI v2), some (aI v3), some (aI v4), some (aI v5), none] [aI x1.1] x1.2 from ?_)
  refine go_if_eq (tgt := 39) dX12_life_10 (by decide) (fun c2 => ?_) (fun c2 => ?_)
  · replace H := (gm_ite H).1 c2
    refine go_iconst (v := (-1 : Int32)) dX12_life_39 rfl ?_
    obtain rfl := Option.some.inj H
    exact go_ireturn dX12_life_40 (tyI_int rfl)
  · replace H := (gm_ite H).2 c2
    refine go_aloadn dX12_life_13 rfl ?_
    refine go_iloadn dX12_life_14 rfl ?_
    refine go_iloadn dX12_life_15 rfl ?_
    obtain ⟨c3, x2, ex2, H⟩ := gm_rc H
    refine go_callV (vs := [aI v2, aI v3]) (stk := []) (o1 := (some (aI x2), x1.2)) mk_X12_isVersion sv_X12_life_284 cl_X12 rfl dX12_life_16 c3 rfl rfl (Nat.le_of_ble_eq_true rfl) (Nat.le_of_ble_eq_true rfl) (ok_X12_isVersion ex2) (show Go M_X12_life (some (aI r.1), r.2) 19 [some (aA v0), some (aI v1), some (aI v2), some (aI v3), some (aI v4), some (aI v5), none] [aI x2] x1.2 from ?_)
    refine go_if_eq (tgt := 39) dX12_life_19 (by decide) (fun c4 => ?_) (fun c4 => ?_)
    · replace H := (gm_ite H).1 c4
      refine go_iconst (v := (-1 : Int32)) dX12_life_39 rfl ?_
      obtain rfl := Option.some.inj H
      exact go_ireturn dX12_life_40 (tyI_int rfl)
    · replace H := (gm_ite H).2 c4
      refine go_iload dX12_life_22 rfl ?_
      refine go_iconst (v := (0 : Int32)) dX12_life_24 rfl ?_
      refine go_aloadn dX12_life_25 rfl ?_
      refine go_iloadn dX12_life_26 rfl ?_
      refine go_iloadn dX12_life_27 rfl ?_
      obtain ⟨c5, x3, ex3, H⟩ := gm_rc H
      refine go_callV (vs := [aI v2, aI v3]) (stk := [aI (0 : Int32), aI v4]) (o1 := (some (aI x3), x1.2)) mk_X12_longOf sv_X12_life_269 cl_X12 rfl dX12_life_28 c5 rfl rfl (Nat.le_of_ble_eq_true rfl) (Nat.le_of_ble_eq_true rfl) (ok_X12_longOf ex3) (show Go M_X12_life (some (aI r.1), r.2) 31 [some (aA v0), some (aI v1), some (aI v2), some (aI v3), some (aI v4), some (aI v5), none] [aI x3, aI (0 : Int32), aI v4] x1.2 from ?_)
      refine go_iconst (v := (1 : Int32)) dX12_life_31 rfl ?_
      refine go_isub dX12_life_32 ?_
      obtain ⟨x4, ex4, H⟩ := bind_some H
      refine go_callS (vs := [aI v4, aI (0 : Int32), aI (x3 - (1 : Int32))]) (stk := []) (o1 := (some (aI x4), x1.2)) mk_X12_in ss_X12_life_72 dX12_life_33 rfl rfl (Nat.le_of_ble_eq_true rfl) (Nat.le_of_ble_eq_true rfl) (ok_X12_in ex4) (show Go M_X12_life (some (aI r.1), r.2) 36 [some (aA v0), some (aI v1), some (aI v2), some (aI v3), some (aI v4), some (aI v5), none] [aI x4] x1.2 from ?_)
      refine go_if_ne (tgt := 41) dX12_life_36 (by decide) (fun c7 => ?_) (fun c7 => ?_)
      · replace H := (gm_ite H).1 c7
        refine go_aloadn dX12_life_41 rfl ?_
        refine go_aloadn dX12_life_42 rfl ?_
        refine go_iloadn dX12_life_43 rfl ?_
        refine go_iloadn dX12_life_44 rfl ?_
        refine go_iload dX12_life_45 rfl ?_
        obtain ⟨c8, x5, ex5, H⟩ := gm_rc H
        refine go_callV (vs := [aI v2, aI v3, aI v4]) (stk := [aA v0]) (o1 := (some (aI x5), x1.2)) mk_X12_tokenAt sv_X12_life_262 cl_X12 rfl dX12_life_47 c8 rfl rfl (Nat.le_of_ble_eq_true rfl) (Nat.le_of_ble_eq_true rfl) (ok_X12_tokenAt ex5) (show Go M_X12_life (some (aI r.1), r.2) 50 [some (aA v0), some (aI v1), some (aI v2), some (aI v3), some (aI v4), some (aI v5), none] [aI x5, aA v0] x1.2 from ?_)
        obtain ⟨c9, x6, ex6, H⟩ := gm_rc H
        refine go_callV (vs := [aI x5]) (stk := []) (o1 := (some (aI x6), x1.2)) mk_X12_whereIs sv_X12_life_278 cl_X12 rfl dX12_life_50 c9 rfl rfl (Nat.le_of_ble_eq_true rfl) (Nat.le_of_ble_eq_true rfl) (ok_X12_whereIs ex6) (show Go M_X12_life (some (aI r.1), r.2) 53 [some (aA v0), some (aI v1), some (aI v2), some (aI v3), some (aI v4), some (aI v5), none] [aI x6] x1.2 from ?_)
        refine go_istore (loc2 := [some (aA v0), some (aI v1), some (aI v2), some (aI v3), some (aI v4), some (aI v5), some (aI x6)]) dX12_life_53 (by decide) rfl ?_
        refine go_iload dX12_life_55 rfl ?_
        by_cases c10 : v5 = (0 : Int32)
        · replace H := (gm_ite H).1 c10
          refine go_eqI c10 ?_
          refine go_tableIn (tgt := 88) dX12_life_57 (by decide) (by decide) rfl (by decide) ?_
          refine go_iload dX12_life_88 rfl ?_
          obtain ⟨x7, ex7, H⟩ := bind_some H
          refine go_callS (vs := [aI x6]) (stk := []) (o1 := (some (aI x7), x1.2)) mk_X12_firstIn ss_X12_life_352 dX12_life_90 rfl rfl (Nat.le_of_ble_eq_true rfl) (Nat.le_of_ble_eq_true rfl) (ok_X12_firstIn ex7) (show Go M_X12_life (some (aI r.1), r.2) 93 [some (aA v0), some (aI v1), some (aI v2), some (aI v3), some (aI v4), some (aI v5), some (aI x6)] [aI x7] x1.2 from ?_)
          obtain rfl := Option.some.inj H
          exact go_ireturn dX12_life_93 (tyI_int rfl)
        · replace H := (gm_ite H).2 c10
          by_cases c12 : v5 = (1 : Int32)
          · replace H := (gm_ite H).1 c12
            refine go_eqI c12 ?_
            refine go_tableIn (tgt := 94) dX12_life_57 (by decide) (by decide) rfl (by decide) ?_
            refine go_iload dX12_life_94 rfl ?_
            obtain ⟨x8, ex8, H⟩ := bind_some H
            refine go_callS (vs := [aI x6]) (stk := []) (o1 := (some (aI x8), x1.2)) mk_X12_lastIn ss_X12_life_355 dX12_life_96 rfl rfl (Nat.le_of_ble_eq_true rfl) (Nat.le_of_ble_eq_true rfl) (ok_X12_lastIn ex8) (show Go M_X12_life (some (aI r.1), r.2) 99 [some (aA v0), some (aI v1), some (aI v2), some (aI v3), some (aI v4), some (aI v5), some (aI x6)] [aI x8] x1.2 from ?_)
            obtain rfl := Option.some.inj H
            exact go_ireturn dX12_life_99 (tyI_int rfl)
          · replace H := (gm_ite H).2 c12
            by_cases c14 : v5 = (2 : Int32)
            · replace H := (gm_ite H).1 c14
              refine go_eqI c14 ?_
              refine go_tableIn (tgt := 100) dX12_life_57 (by decide) (by decide) rfl (by decide) ?_
              refine go_iload dX12_life_100 rfl ?_
              obtain ⟨x9, ex9, H⟩ := bind_some H
              refine go_callS (vs := [aI x6]) (stk := []) (o1 := (some (aI x9), x1.2)) mk_X12_ones ss_X12_life_300 dX12_life_102 rfl rfl (Nat.le_of_ble_eq_true rfl) (Nat.le_of_ble_eq_true rfl) (ok_X12_ones ex9) (show Go M_X12_life (some (aI r.1), r.2) 105 [some (aA v0), some (aI v1), some (aI v2), some (aI v3), some (aI v4), some (aI v5), some (aI x6)] [aI x9] x1.2 from ?_)
              obtain rfl := Option.some.inj H
              exact go_ireturn dX12_life_105 (tyI_int rfl)
            · replace H := (gm_ite H).2 c14
              by_cases c16 : v5 = (3 : Int32)
              · replace H := (gm_ite H).1 c16
                refine go_eqI c16 ?_
                refine go_tableIn (tgt := 106) dX12_life_57 (by decide) (by decide) rfl (by decide) ?_
                refine go_iload dX12_life_106 rfl ?_
                obtain ⟨x10, ex10, H⟩ := bind_some H
                refine go_callS (vs := [aI x6]) (stk := []) (o1 := (some (aI x10), x1.2)) mk_X12_rowsIn ss_X12_life_281 dX12_life_108 rfl rfl (Nat.le_of_ble_eq_true rfl) (Nat.le_of_ble_eq_true rfl) (ok_X12_rowsIn ex10) (show Go M_X12_life (some (aI r.1), r.2) 111 [some (aA v0), some (aI v1), some (aI v2), some (aI v3), some (aI v4), some (aI v5), some (aI x6)] [aI x10] x1.2 from ?_)
                obtain rfl := Option.some.inj H
                exact go_ireturn dX12_life_111 (tyI_int rfl)
              · replace H := (gm_ite H).2 c16
                refine go_tableOut (tgt := 112) dX12_life_57 (sw_out (fun i h1 h2 e => ?_)) (by decide) ?_
                · have h3 : i = 0 ∨ i = 1 ∨ i = 2 ∨ i = 3 := by omega
                  rcases h3 with rfl | rfl | rfl | rfl
                  · exact sw_ne c10 (by decide) e
                  · exact sw_ne c12 (by decide) e
                  · exact sw_ne c14 (by decide) e
                  · exact sw_ne c16 (by decide) e
                · skip
                  refine go_iconst (v := (-1 : Int32)) dX12_life_112 rfl ?_
                  obtain rfl := Option.some.inj H
                  exact go_ireturn dX12_life_113 (tyI_int rfl)
      · replace H := (gm_ite H).2 c7
        refine go_iconst (v := (-1 : Int32)) dX12_life_39 rfl ?_
        obtain rfl := Option.some.inj H
        exact go_ireturn dX12_life_40 (tyI_int rfl)
/-! X0_hasWord -/
def j_X0_hasWord_17  (s0 : Int32) (h : Hp) : Option Int32 :=
  (zb s0).bind fun x1 => some x1
set_option maxRecDepth 20000 in
theorem okj_X0_hasWord_17 {r : Int32}  (s0 : Int32) (h : Hp) (H : j_X0_hasWord_17 s0 h = some r) : Go M_X0_hasWord (some (aI r), h) 17 [none, none] [aI s0] h := by
  unfold j_X0_hasWord_17 at H
  obtain ⟨hz, H⟩ := gm_zb H
  obtain rfl := Option.some.inj H
  exact go_ireturn (x := s0) dX0_hasWord_17 (tyI_bool rfl hz)
def m_X0_hasWord (v0 : Nat) (v1 : Int32) (h : Hp) : Option Int32 :=
  if v1 < 0 then j_X0_hasWord_17 (0 : Int32) h else (gfI h v0 1 2).bind fun x1 => j_X0_hasWord_17 (if x1 ≤ v1 then (0 : Int32) else (1 : Int32)) h
set_option maxRecDepth 20000 in
theorem ok_X0_hasWord {r : Int32} {v0 : Nat} {v1 : Int32} {h : Hp} (H : m_X0_hasWord v0 v1 h = some r) : Ev M_X0_hasWord [aA v0, aI v1] h (some (aI r), h) := by
  show Go M_X0_hasWord (some (aI r), h) 0 [some (aA v0), some (aI v1)] [] h
  unfold m_X0_hasWord at H
  refine go_iloadn dX0_hasWord_0 rfl ?_
  refine go_if_lt (tgt := 16) dX0_hasWord_1 (by decide) (fun c1 => ?_) (fun c1 => ?_)
  · replace H := (gm_ite H).1 c1
    refine go_iconst (v := (0 : Int32)) dX0_hasWord_16 rfl ?_
    refine go_mask [false, false] (loc' := [none, none]) rfl ?_
    exact okj_X0_hasWord_17 (0 : Int32) h  H
  · replace H := (gm_ite H).2 c1
    refine go_iloadn dX0_hasWord_4 rfl ?_
    refine go_aloadn dX0_hasWord_5 rfl ?_
    refine gm_getI fd_X0_18 dX0_hasWord_6 H (fun x1 H => ?_)
    refine go_icmp_ge (tgt := 16) dX0_hasWord_9 (by decide) (fun c2 => ?_) (fun c2 => ?_)
    · rw [if_pos c2] at H
      refine go_iconst (v := (0 : Int32)) dX0_hasWord_16 rfl ?_
      refine go_mask [false, false] (loc' := [none, none]) rfl ?_
      exact okj_X0_hasWord_17 (0 : Int32) h  H
    · rw [if_neg c2] at H
      refine go_iconst (v := (1 : Int32)) dX0_hasWord_12 rfl ?_
      refine go_goto (tgt := 17) dX0_hasWord_13 (by decide) ?_
      refine go_mask [false, false] (loc' := [none, none]) rfl ?_
      exact okj_X0_hasWord_17 (1 : Int32) h  H
/-! X0_slotsOfWord -/
def j_X0_slotsOfWord_23  (s0 : Int64) (h : Hp) : Option Int64 :=
  some s0
set_option maxRecDepth 20000 in
theorem okj_X0_slotsOfWord_23 {r : Int64}  (s0 : Int64) (h : Hp) (H : j_X0_slotsOfWord_23 s0 h = some r) : Go M_X0_slotsOfWord (some (aL r), h) 23 [none, none] [aL s0] h := by
  unfold j_X0_slotsOfWord_23 at H
  obtain rfl := Option.some.inj H
  exact go_lreturn dX0_slotsOfWord_23 rfl
def j_X0_slotsOfWord_22   (h : Hp) : Option Int64 :=
  j_X0_slotsOfWord_23 (0 : Int64) h
set_option maxRecDepth 20000 in
theorem okj_X0_slotsOfWord_22 {r : Int64}   (h : Hp) (H : j_X0_slotsOfWord_22 h = some r) : Go M_X0_slotsOfWord (some (aL r), h) 22 [none, none] [] h := by
  unfold j_X0_slotsOfWord_22 at H
  refine go_lconst (v := (0 : Int64)) dX0_slotsOfWord_22 rfl ?_
  exact okj_X0_slotsOfWord_23 (0 : Int64) h  H
def m_X0_slotsOfWord (v0 : Nat) (v1 : Int32) (h : Hp) : Option Int64 :=
  if v1 < 0 then j_X0_slotsOfWord_22 h else (gfR h v0 1 11).bind fun x1 => (alen h x1 22).bind fun x2 => if x2 ≤ v1 then j_X0_slotsOfWord_22 h else (gfR h v0 1 11).bind fun x3 => (alJ h x3 v1).bind fun x4 => j_X0_slotsOfWord_23 x4 h
set_option maxRecDepth 20000 in
theorem ok_X0_slotsOfWord {r : Int64} {v0 : Nat} {v1 : Int32} {h : Hp} (H : m_X0_slotsOfWord v0 v1 h = some r) : Ev M_X0_slotsOfWord [aA v0, aI v1] h (some (aL r), h) := by
  show Go M_X0_slotsOfWord (some (aL r), h) 0 [some (aA v0), some (aI v1)] [] h
  unfold m_X0_slotsOfWord at H
  refine go_iloadn dX0_slotsOfWord_0 rfl ?_
  refine go_if_lt (tgt := 22) dX0_slotsOfWord_1 (by decide) (fun c1 => ?_) (fun c1 => ?_)
  · replace H := (gm_ite H).1 c1
    refine go_mask [false, false] (loc' := [none, none]) rfl ?_
    exact okj_X0_slotsOfWord_22 h  H
  · replace H := (gm_ite H).2 c1
    refine go_iloadn dX0_slotsOfWord_4 rfl ?_
    refine go_aloadn dX0_slotsOfWord_5 rfl ?_
    refine gm_getR fd_X0_46 dX0_slotsOfWord_6 H (fun x1 H => ?_)
    refine gm_alen (by decide) dX0_slotsOfWord_9 H (fun x2 H => ?_)
    refine go_icmp_ge (tgt := 22) dX0_slotsOfWord_10 (by decide) (fun c2 => ?_) (fun c2 => ?_)
    · replace H := (gm_ite H).1 c2
      refine go_mask [false, false] (loc' := [none, none]) rfl ?_
      exact okj_X0_slotsOfWord_22 h  H
    · replace H := (gm_ite H).2 c2
      refine go_aloadn dX0_slotsOfWord_13 rfl ?_
      refine gm_getR fd_X0_46 dX0_slotsOfWord_14 H (fun x3 H => ?_)
      refine go_iloadn dX0_slotsOfWord_17 rfl ?_
      refine gm_lald dX0_slotsOfWord_18 H (fun x4 H => ?_)
      refine go_goto (tgt := 23) dX0_slotsOfWord_19 (by decide) ?_
      refine go_mask [false, false] (loc' := [none, none]) rfl ?_
      exact okj_X0_slotsOfWord_23 x4 h  H
/-! J13_bitCount_95d88 -/
def m_J13_bitCount_95d88 (v0 : Int64) (h : Hp) : Option Int32 :=
  some ((Int64.toInt32 ((((((((v0 - ((lushrF v0 (1 : Int32)) &&& (6148914691236517205 : Int64))) &&& (3689348814741910323 : Int64)) + ((lushrF (v0 - ((lushrF v0 (1 : Int32)) &&& (6148914691236517205 : Int64))) (2 : Int32)) &&& (3689348814741910323 : Int64))) + (lushrF (((v0 - ((lushrF v0 (1 : Int32)) &&& (6148914691236517205 : Int64))) &&& (3689348814741910323 : Int64)) + ((lushrF (v0 - ((lushrF v0 (1 : Int32)) &&& (6148914691236517205 : Int64))) (2 : Int32)) &&& (3689348814741910323 : Int64))) (4 : Int32))) &&& (1085102592571150095 : Int64)) + (lushrF (((((v0 - ((lushrF v0 (1 : Int32)) &&& (6148914691236517205 : Int64))) &&& (3689348814741910323 : Int64)) + ((lushrF (v0 - ((lushrF v0 (1 : Int32)) &&& (6148914691236517205 : Int64))) (2 : Int32)) &&& (3689348814741910323 : Int64))) + (lushrF (((v0 - ((lushrF v0 (1 : Int32)) &&& (6148914691236517205 : Int64))) &&& (3689348814741910323 : Int64)) + ((lushrF (v0 - ((lushrF v0 (1 : Int32)) &&& (6148914691236517205 : Int64))) (2 : Int32)) &&& (3689348814741910323 : Int64))) (4 : Int32))) &&& (1085102592571150095 : Int64)) (8 : Int32))) + (lushrF ((((((v0 - ((lushrF v0 (1 : Int32)) &&& (6148914691236517205 : Int64))) &&& (3689348814741910323 : Int64)) + ((lushrF (v0 - ((lushrF v0 (1 : Int32)) &&& (6148914691236517205 : Int64))) (2 : Int32)) &&& (3689348814741910323 : Int64))) + (lushrF (((v0 - ((lushrF v0 (1 : Int32)) &&& (6148914691236517205 : Int64))) &&& (3689348814741910323 : Int64)) + ((lushrF (v0 - ((lushrF v0 (1 : Int32)) &&& (6148914691236517205 : Int64))) (2 : Int32)) &&& (3689348814741910323 : Int64))) (4 : Int32))) &&& (1085102592571150095 : Int64)) + (lushrF (((((v0 - ((lushrF v0 (1 : Int32)) &&& (6148914691236517205 : Int64))) &&& (3689348814741910323 : Int64)) + ((lushrF (v0 - ((lushrF v0 (1 : Int32)) &&& (6148914691236517205 : Int64))) (2 : Int32)) &&& (3689348814741910323 : Int64))) + (lushrF (((v0 - ((lushrF v0 (1 : Int32)) &&& (6148914691236517205 : Int64))) &&& (3689348814741910323 : Int64)) + ((lushrF (v0 - ((lushrF v0 (1 : Int32)) &&& (6148914691236517205 : Int64))) (2 : Int32)) &&& (3689348814741910323 : Int64))) (4 : Int32))) &&& (1085102592571150095 : Int64)) (8 : Int32))) (16 : Int32))) + (lushrF (((((((v0 - ((lushrF v0 (1 : Int32)) &&& (6148914691236517205 : Int64))) &&& (3689348814741910323 : Int64)) + ((lushrF (v0 - ((lushrF v0 (1 : Int32)) &&& (6148914691236517205 : Int64))) (2 : Int32)) &&& (3689348814741910323 : Int64))) + (lushrF (((v0 - ((lushrF v0 (1 : Int32)) &&& (6148914691236517205 : Int64))) &&& (3689348814741910323 : Int64)) + ((lushrF (v0 - ((lushrF v0 (1 : Int32)) &&& (6148914691236517205 : Int64))) (2 : Int32)) &&& (3689348814741910323 : Int64))) (4 : Int32))) &&& (1085102592571150095 : Int64)) + (lushrF (((((v0 - ((lushrF v0 (1 : Int32)) &&& (6148914691236517205 : Int64))) &&& (3689348814741910323 : Int64)) + ((lushrF (v0 - ((lushrF v0 (1 : Int32)) &&& (6148914691236517205 : Int64))) (2 : Int32)) &&& (3689348814741910323 : Int64))) + (lushrF (((v0 - ((lushrF v0 (1 : Int32)) &&& (6148914691236517205 : Int64))) &&& (3689348814741910323 : Int64)) + ((lushrF (v0 - ((lushrF v0 (1 : Int32)) &&& (6148914691236517205 : Int64))) (2 : Int32)) &&& (3689348814741910323 : Int64))) (4 : Int32))) &&& (1085102592571150095 : Int64)) (8 : Int32))) + (lushrF ((((((v0 - ((lushrF v0 (1 : Int32)) &&& (6148914691236517205 : Int64))) &&& (3689348814741910323 : Int64)) + ((lushrF (v0 - ((lushrF v0 (1 : Int32)) &&& (6148914691236517205 : Int64))) (2 : Int32)) &&& (3689348814741910323 : Int64))) + (lushrF (((v0 - ((lushrF v0 (1 : Int32)) &&& (6148914691236517205 : Int64))) &&& (3689348814741910323 : Int64)) + ((lushrF (v0 - ((lushrF v0 (1 : Int32)) &&& (6148914691236517205 : Int64))) (2 : Int32)) &&& (3689348814741910323 : Int64))) (4 : Int32))) &&& (1085102592571150095 : Int64)) + (lushrF (((((v0 - ((lushrF v0 (1 : Int32)) &&& (6148914691236517205 : Int64))) &&& (3689348814741910323 : Int64)) + ((lushrF (v0 - ((lushrF v0 (1 : Int32)) &&& (6148914691236517205 : Int64))) (2 : Int32)) &&& (3689348814741910323 : Int64))) + (lushrF (((v0 - ((lushrF v0 (1 : Int32)) &&& (6148914691236517205 : Int64))) &&& (3689348814741910323 : Int64)) + ((lushrF (v0 - ((lushrF v0 (1 : Int32)) &&& (6148914691236517205 : Int64))) (2 : Int32)) &&& (3689348814741910323 : Int64))) (4 : Int32))) &&& (1085102592571150095 : Int64)) (8 : Int32))) (16 : Int32))) (32 : Int32)))) &&& (127 : Int32))
set_option maxRecDepth 20000 in
theorem ok_J13_bitCount_95d88 {r : Int32} {v0 : Int64} {h : Hp} (H : m_J13_bitCount_95d88 v0 h = some r) : Ev M_J13_bitCount_95d88 [aL v0] h (some (aI r), h) := by
  show Go M_J13_bitCount_95d88 (some (aI r), h) 0 [some (aL v0), none] [] h
  unfold m_J13_bitCount_95d88 at H
  refine go_lloadn dJ13_bitCount_95d88_0 rfl ?_
  refine go_lloadn dJ13_bitCount_95d88_1 rfl ?_
  refine go_iconst (v := (1 : Int32)) dJ13_bitCount_95d88_2 rfl ?_
  refine go_lushr dJ13_bitCount_95d88_3 ?_
  refine go_ldc2 (v := (6148914691236517205 : Int64)) tw1024 dJ13_bitCount_95d88_4 ?_
  refine go_land dJ13_bitCount_95d88_7 ?_
  refine go_lsub dJ13_bitCount_95d88_8 ?_
  refine go_lstoren (loc2 := [some (aL (v0 - ((lushrF v0 (1 : Int32)) &&& (6148914691236517205 : Int64)))), none]) dJ13_bitCount_95d88_9 rfl (by decide) rfl ?_
  refine go_lloadn dJ13_bitCount_95d88_10 rfl ?_
  refine go_ldc2 (v := (3689348814741910323 : Int64)) tw1025 dJ13_bitCount_95d88_11 ?_
  refine go_land dJ13_bitCount_95d88_14 ?_
  refine go_lloadn dJ13_bitCount_95d88_15 rfl ?_
  refine go_iconst (v := (2 : Int32)) dJ13_bitCount_95d88_16 rfl ?_
  refine go_lushr dJ13_bitCount_95d88_17 ?_
  refine go_ldc2 (v := (3689348814741910323 : Int64)) tw1025 dJ13_bitCount_95d88_18 ?_
  refine go_land dJ13_bitCount_95d88_21 ?_
  refine go_ladd dJ13_bitCount_95d88_22 ?_
  refine go_lstoren (loc2 := [some (aL (((v0 - ((lushrF v0 (1 : Int32)) &&& (6148914691236517205 : Int64))) &&& (3689348814741910323 : Int64)) + ((lushrF (v0 - ((lushrF v0 (1 : Int32)) &&& (6148914691236517205 : Int64))) (2 : Int32)) &&& (3689348814741910323 : Int64)))), none]) dJ13_bitCount_95d88_23 rfl (by decide) rfl ?_
  refine go_lloadn dJ13_bitCount_95d88_24 rfl ?_
  refine go_lloadn dJ13_bitCount_95d88_25 rfl ?_
  refine go_iconst (v := (4 : Int32)) dJ13_bitCount_95d88_26 rfl ?_
  refine go_lushr dJ13_bitCount_95d88_27 ?_
  refine go_ladd dJ13_bitCount_95d88_28 ?_
  refine go_ldc2 (v := (1085102592571150095 : Int64)) tw1026 dJ13_bitCount_95d88_29 ?_
  refine go_land dJ13_bitCount_95d88_32 ?_
  refine go_lstoren (loc2 := [some (aL (((((v0 - ((lushrF v0 (1 : Int32)) &&& (6148914691236517205 : Int64))) &&& (3689348814741910323 : Int64)) + ((lushrF (v0 - ((lushrF v0 (1 : Int32)) &&& (6148914691236517205 : Int64))) (2 : Int32)) &&& (3689348814741910323 : Int64))) + (lushrF (((v0 - ((lushrF v0 (1 : Int32)) &&& (6148914691236517205 : Int64))) &&& (3689348814741910323 : Int64)) + ((lushrF (v0 - ((lushrF v0 (1 : Int32)) &&& (6148914691236517205 : Int64))) (2 : Int32)) &&& (3689348814741910323 : Int64))) (4 : Int32))) &&& (1085102592571150095 : Int64))), none]) dJ13_bitCount_95d88_33 rfl (by decide) rfl ?_
  refine go_lloadn dJ13_bitCount_95d88_34 rfl ?_
  refine go_lloadn dJ13_bitCount_95d88_35 rfl ?_
  refine go_bipush (v := (8 : Int32)) dJ13_bitCount_95d88_36 rfl ?_
  refine go_lushr dJ13_bitCount_95d88_38 ?_
  refine go_ladd dJ13_bitCount_95d88_39 ?_
  refine go_lstoren (loc2 := [some (aL ((((((v0 - ((lushrF v0 (1 : Int32)) &&& (6148914691236517205 : Int64))) &&& (3689348814741910323 : Int64)) + ((lushrF (v0 - ((lushrF v0 (1 : Int32)) &&& (6148914691236517205 : Int64))) (2 : Int32)) &&& (3689348814741910323 : Int64))) + (lushrF (((v0 - ((lushrF v0 (1 : Int32)) &&& (6148914691236517205 : Int64))) &&& (3689348814741910323 : Int64)) + ((lushrF (v0 - ((lushrF v0 (1 : Int32)) &&& (6148914691236517205 : Int64))) (2 : Int32)) &&& (3689348814741910323 : Int64))) (4 : Int32))) &&& (1085102592571150095 : Int64)) + (lushrF (((((v0 - ((lushrF v0 (1 : Int32)) &&& (6148914691236517205 : Int64))) &&& (3689348814741910323 : Int64)) + ((lushrF (v0 - ((lushrF v0 (1 : Int32)) &&& (6148914691236517205 : Int64))) (2 : Int32)) &&& (3689348814741910323 : Int64))) + (lushrF (((v0 - ((lushrF v0 (1 : Int32)) &&& (6148914691236517205 : Int64))) &&& (3689348814741910323 : Int64)) + ((lushrF (v0 - ((lushrF v0 (1 : Int32)) &&& (6148914691236517205 : Int64))) (2 : Int32)) &&& (3689348814741910323 : Int64))) (4 : Int32))) &&& (1085102592571150095 : Int64)) (8 : Int32)))), none]) dJ13_bitCount_95d88_40 rfl (by decide) rfl ?_
  refine go_lloadn dJ13_bitCount_95d88_41 rfl ?_
  refine go_lloadn dJ13_bitCount_95d88_42 rfl ?_
  refine go_bipush (v := (16 : Int32)) dJ13_bitCount_95d88_43 rfl ?_
  refine go_lushr dJ13_bitCount_95d88_45 ?_
  refine go_ladd dJ13_bitCount_95d88_46 ?_
  refine go_lstoren (loc2 := [some (aL (((((((v0 - ((lushrF v0 (1 : Int32)) &&& (6148914691236517205 : Int64))) &&& (3689348814741910323 : Int64)) + ((lushrF (v0 - ((lushrF v0 (1 : Int32)) &&& (6148914691236517205 : Int64))) (2 : Int32)) &&& (3689348814741910323 : Int64))) + (lushrF (((v0 - ((lushrF v0 (1 : Int32)) &&& (6148914691236517205 : Int64))) &&& (3689348814741910323 : Int64)) + ((lushrF (v0 - ((lushrF v0 (1 : Int32)) &&& (6148914691236517205 : Int64))) (2 : Int32)) &&& (3689348814741910323 : Int64))) (4 : Int32))) &&& (1085102592571150095 : Int64)) + (lushrF (((((v0 - ((lushrF v0 (1 : Int32)) &&& (6148914691236517205 : Int64))) &&& (3689348814741910323 : Int64)) + ((lushrF (v0 - ((lushrF v0 (1 : Int32)) &&& (6148914691236517205 : Int64))) (2 : Int32)) &&& (3689348814741910323 : Int64))) + (lushrF (((v0 - ((lushrF v0 (1 : Int32)) &&& (6148914691236517205 : Int64))) &&& (3689348814741910323 : Int64)) + ((lushrF (v0 - ((lushrF v0 (1 : Int32)) &&& (6148914691236517205 : Int64))) (2 : Int32)) &&& (3689348814741910323 : Int64))) (4 : Int32))) &&& (1085102592571150095 : Int64)) (8 : Int32))) + (lushrF ((((((v0 - ((lushrF v0 (1 : Int32)) &&& (6148914691236517205 : Int64))) &&& (3689348814741910323 : Int64)) + ((lushrF (v0 - ((lushrF v0 (1 : Int32)) &&& (6148914691236517205 : Int64))) (2 : Int32)) &&& (3689348814741910323 : Int64))) + (lushrF (((v0 - ((lushrF v0 (1 : Int32)) &&& (6148914691236517205 : Int64))) &&& (3689348814741910323 : Int64)) + ((lushrF (v0 - ((lushrF v0 (1 : Int32)) &&& (6148914691236517205 : Int64))) (2 : Int32)) &&& (3689348814741910323 : Int64))) (4 : Int32))) &&& (1085102592571150095 : Int64)) + (lushrF (((((v0 - ((lushrF v0 (1 : Int32)) &&& (6148914691236517205 : Int64))) &&& (3689348814741910323 : Int64)) + ((lushrF (v0 - ((lushrF v0 (1 : Int32)) &&& (6148914691236517205 : Int64))) (2 : Int32)) &&& (3689348814741910323 : Int64))) + (lushrF (((v0 - ((lushrF v0 (1 : Int32)) &&& (6148914691236517205 : Int64))) &&& (3689348814741910323 : Int64)) + ((lushrF (v0 - ((lushrF v0 (1 : Int32)) &&& (6148914691236517205 : Int64))) (2 : Int32)) &&& (3689348814741910323 : Int64))) (4 : Int32))) &&& (1085102592571150095 : Int64)) (8 : Int32))) (16 : Int32)))), none]) dJ13_bitCount_95d88_47 rfl (by decide) rfl ?_
  refine go_lloadn dJ13_bitCount_95d88_48 rfl ?_
  refine go_lloadn dJ13_bitCount_95d88_49 rfl ?_
  refine go_bipush (v := (32 : Int32)) dJ13_bitCount_95d88_50 rfl ?_
  refine go_lushr dJ13_bitCount_95d88_52 ?_
  refine go_ladd dJ13_bitCount_95d88_53 ?_
  refine go_lstoren (loc2 := [some (aL ((((((((v0 - ((lushrF v0 (1 : Int32)) &&& (6148914691236517205 : Int64))) &&& (3689348814741910323 : Int64)) + ((lushrF (v0 - ((lushrF v0 (1 : Int32)) &&& (6148914691236517205 : Int64))) (2 : Int32)) &&& (3689348814741910323 : Int64))) + (lushrF (((v0 - ((lushrF v0 (1 : Int32)) &&& (6148914691236517205 : Int64))) &&& (3689348814741910323 : Int64)) + ((lushrF (v0 - ((lushrF v0 (1 : Int32)) &&& (6148914691236517205 : Int64))) (2 : Int32)) &&& (3689348814741910323 : Int64))) (4 : Int32))) &&& (1085102592571150095 : Int64)) + (lushrF (((((v0 - ((lushrF v0 (1 : Int32)) &&& (6148914691236517205 : Int64))) &&& (3689348814741910323 : Int64)) + ((lushrF (v0 - ((lushrF v0 (1 : Int32)) &&& (6148914691236517205 : Int64))) (2 : Int32)) &&& (3689348814741910323 : Int64))) + (lushrF (((v0 - ((lushrF v0 (1 : Int32)) &&& (6148914691236517205 : Int64))) &&& (3689348814741910323 : Int64)) + ((lushrF (v0 - ((lushrF v0 (1 : Int32)) &&& (6148914691236517205 : Int64))) (2 : Int32)) &&& (3689348814741910323 : Int64))) (4 : Int32))) &&& (1085102592571150095 : Int64)) (8 : Int32))) + (lushrF ((((((v0 - ((lushrF v0 (1 : Int32)) &&& (6148914691236517205 : Int64))) &&& (3689348814741910323 : Int64)) + ((lushrF (v0 - ((lushrF v0 (1 : Int32)) &&& (6148914691236517205 : Int64))) (2 : Int32)) &&& (3689348814741910323 : Int64))) + (lushrF (((v0 - ((lushrF v0 (1 : Int32)) &&& (6148914691236517205 : Int64))) &&& (3689348814741910323 : Int64)) + ((lushrF (v0 - ((lushrF v0 (1 : Int32)) &&& (6148914691236517205 : Int64))) (2 : Int32)) &&& (3689348814741910323 : Int64))) (4 : Int32))) &&& (1085102592571150095 : Int64)) + (lushrF (((((v0 - ((lushrF v0 (1 : Int32)) &&& (6148914691236517205 : Int64))) &&& (3689348814741910323 : Int64)) + ((lushrF (v0 - ((lushrF v0 (1 : Int32)) &&& (6148914691236517205 : Int64))) (2 : Int32)) &&& (3689348814741910323 : Int64))) + (lushrF (((v0 - ((lushrF v0 (1 : Int32)) &&& (6148914691236517205 : Int64))) &&& (3689348814741910323 : Int64)) + ((lushrF (v0 - ((lushrF v0 (1 : Int32)) &&& (6148914691236517205 : Int64))) (2 : Int32)) &&& (3689348814741910323 : Int64))) (4 : Int32))) &&& (1085102592571150095 : Int64)) (8 : Int32))) (16 : Int32))) + (lushrF (((((((v0 - ((lushrF v0 (1 : Int32)) &&& (6148914691236517205 : Int64))) &&& (3689348814741910323 : Int64)) + ((lushrF (v0 - ((lushrF v0 (1 : Int32)) &&& (6148914691236517205 : Int64))) (2 : Int32)) &&& (3689348814741910323 : Int64))) + (lushrF (((v0 - ((lushrF v0 (1 : Int32)) &&& (6148914691236517205 : Int64))) &&& (3689348814741910323 : Int64)) + ((lushrF (v0 - ((lushrF v0 (1 : Int32)) &&& (6148914691236517205 : Int64))) (2 : Int32)) &&& (3689348814741910323 : Int64))) (4 : Int32))) &&& (1085102592571150095 : Int64)) + (lushrF (((((v0 - ((lushrF v0 (1 : Int32)) &&& (6148914691236517205 : Int64))) &&& (3689348814741910323 : Int64)) + ((lushrF (v0 - ((lushrF v0 (1 : Int32)) &&& (6148914691236517205 : Int64))) (2 : Int32)) &&& (3689348814741910323 : Int64))) + (lushrF (((v0 - ((lushrF v0 (1 : Int32)) &&& (6148914691236517205 : Int64))) &&& (3689348814741910323 : Int64)) + ((lushrF (v0 - ((lushrF v0 (1 : Int32)) &&& (6148914691236517205 : Int64))) (2 : Int32)) &&& (3689348814741910323 : Int64))) (4 : Int32))) &&& (1085102592571150095 : Int64)) (8 : Int32))) + (lushrF ((((((v0 - ((lushrF v0 (1 : Int32)) &&& (6148914691236517205 : Int64))) &&& (3689348814741910323 : Int64)) + ((lushrF (v0 - ((lushrF v0 (1 : Int32)) &&& (6148914691236517205 : Int64))) (2 : Int32)) &&& (3689348814741910323 : Int64))) + (lushrF (((v0 - ((lushrF v0 (1 : Int32)) &&& (6148914691236517205 : Int64))) &&& (3689348814741910323 : Int64)) + ((lushrF (v0 - ((lushrF v0 (1 : Int32)) &&& (6148914691236517205 : Int64))) (2 : Int32)) &&& (3689348814741910323 : Int64))) (4 : Int32))) &&& (1085102592571150095 : Int64)) + (lushrF (((((v0 - ((lushrF v0 (1 : Int32)) &&& (6148914691236517205 : Int64))) &&& (3689348814741910323 : Int64)) + ((lushrF (v0 - ((lushrF v0 (1 : Int32)) &&& (6148914691236517205 : Int64))) (2 : Int32)) &&& (3689348814741910323 : Int64))) + (lushrF (((v0 - ((lushrF v0 (1 : Int32)) &&& (6148914691236517205 : Int64))) &&& (3689348814741910323 : Int64)) + ((lushrF (v0 - ((lushrF v0 (1 : Int32)) &&& (6148914691236517205 : Int64))) (2 : Int32)) &&& (3689348814741910323 : Int64))) (4 : Int32))) &&& (1085102592571150095 : Int64)) (8 : Int32))) (16 : Int32))) (32 : Int32)))), none]) dJ13_bitCount_95d88_54 rfl (by decide) rfl ?_
  refine go_lloadn dJ13_bitCount_95d88_55 rfl ?_
  refine go_l2i dJ13_bitCount_95d88_56 ?_
  refine go_bipush (v := (127 : Int32)) dJ13_bitCount_95d88_57 rfl ?_
  refine go_iand dJ13_bitCount_95d88_59 ?_
  obtain rfl := Option.some.inj H
  exact go_ireturn dJ13_bitCount_95d88_60 (tyI_int rfl)
/-! X2_documentsOfWord -/
def j_X2_documentsOfWord_37 (v1 : Nat) (v2 : Int32) (v3 : Int32) (v4 : Int32)  (h : Hp) (k : Int32 → Int32 → Option Int32) : Option Int32 :=
  k v3 (v4 + (1 : Int32))
set_option maxRecDepth 20000 in
theorem okj_X2_documentsOfWord_37 {r : Int32} (v1 : Nat) (v2 : Int32) (v3 : Int32) (v4 : Int32)  (h : Hp) (k : Int32 → Int32 → Option Int32) (Hk : ∀ (v3q : Int32) (v4q : Int32), k v3q v4q = some r → Go M_X2_documentsOfWord (some (aI r), h) 5 [none, some (aA v1), some (aI v2), some (aI v3q), some (aI v4q)] [] h) (H : j_X2_documentsOfWord_37 v1 v2 v3 v4 h k = some r) : Go M_X2_documentsOfWord (some (aI r), h) 37 [none, some (aA v1), some (aI v2), some (aI v3), some (aI v4)] [] h := by
  unfold j_X2_documentsOfWord_37 at H
  refine go_iinc (v := (v4 + (1 : Int32))) (loc2 := [none, some (aA v1), some (aI v2), some (aI v3), some (aI (v4 + (1 : Int32)))]) dX2_documentsOfWord_37 rfl rfl (by decide) rfl ?_
  refine go_goto (tgt := 5) dX2_documentsOfWord_40 (by decide) ?_
  exact Hk v3 (v4 + (1 : Int32)) H
def b_X2_documentsOfWord_5 (v1 : Nat) (v2 : Int32) (h : Hp) (k : Int32 → Int32 → Option Int32) (v3 : Int32) (v4 : Int32) : Option Int32 :=
  if (40 : Int32) ≤ v4 then (some v3) else (rc h v1 1 (m_X0_slotsOfWord v1 v2 h)).bind fun x1 => if ¬ (lg_cmp ((lushrF x1 v4) &&& (1 : Int64)) (1 : Int64)) = 0 then j_X2_documentsOfWord_37 v1 v2 v3 v4 h k else j_X2_documentsOfWord_37 v1 v2 (v3 ||| (ishlF (1 : Int32) (v4 / (10 : Int32)))) v4 h k
set_option maxRecDepth 20000 in
theorem okb_X2_documentsOfWord_5 {r : Int32} (v1 : Nat) (v2 : Int32) (h : Hp) (k : Int32 → Int32 → Option Int32) (v3 : Int32) (v4 : Int32) (Hk : ∀ (v3q : Int32) (v4q : Int32), k v3q v4q = some r → Go M_X2_documentsOfWord (some (aI r), h) 5 [none, some (aA v1), some (aI v2), some (aI v3q), some (aI v4q)] [] h) (H : b_X2_documentsOfWord_5 v1 v2 h k v3 v4 = some r) : Go M_X2_documentsOfWord (some (aI r), h) 5 [none, some (aA v1), some (aI v2), some (aI v3), some (aI v4)] [] h := by
  unfold b_X2_documentsOfWord_5 at H
  refine go_iload dX2_documentsOfWord_5 rfl ?_
  refine go_bipush (v := (40 : Int32)) dX2_documentsOfWord_7 rfl ?_
  refine go_icmp_ge (tgt := 43) dX2_documentsOfWord_9 (by decide) (fun c1 => ?_) (fun c1 => ?_)
  · replace H := (gm_ite H).1 c1
    refine go_iloadn dX2_documentsOfWord_43 rfl ?_
    obtain rfl := Option.some.inj H
    exact go_ireturn dX2_documentsOfWord_44 (tyI_int rfl)
  · replace H := (gm_ite H).2 c1
    refine go_aloadn dX2_documentsOfWord_12 rfl ?_
    refine go_iloadn dX2_documentsOfWord_13 rfl ?_
    obtain ⟨c2, x1, ex1, H⟩ := gm_rc H
    refine go_callV (vs := [aI v2]) (stk := []) (o1 := (some (aL x1), h)) mk_X0_slotsOfWord sv_X2_documentsOfWord_106 cl_X0 rfl dX2_documentsOfWord_14 c2 rfl rfl (Nat.le_of_ble_eq_true rfl) (Nat.le_of_ble_eq_true rfl) (ok_X0_slotsOfWord ex1) (show Go M_X2_documentsOfWord (some (aI r), h) 17 [none, some (aA v1), some (aI v2), some (aI v3), some (aI v4)] [aL x1] h from ?_)
    refine go_iload dX2_documentsOfWord_17 rfl ?_
    refine go_lushr dX2_documentsOfWord_19 ?_
    refine go_lconst (v := (1 : Int64)) dX2_documentsOfWord_20 rfl ?_
    refine go_land dX2_documentsOfWord_21 ?_
    refine go_lconst (v := (1 : Int64)) dX2_documentsOfWord_22 rfl ?_
    refine go_lcmp dX2_documentsOfWord_23 ?_
    refine go_if_ne (tgt := 37) dX2_documentsOfWord_24 (by decide) (fun c3 => ?_) (fun c3 => ?_)
    · replace H := (gm_ite H).1 c3
      exact okj_X2_documentsOfWord_37 v1 v2 v3 v4 h k Hk H
    · replace H := (gm_ite H).2 c3
      refine go_iloadn dX2_documentsOfWord_27 rfl ?_
      refine go_iconst (v := (1 : Int32)) dX2_documentsOfWord_28 rfl ?_
      refine go_iload dX2_documentsOfWord_29 rfl ?_
      refine go_bipush (v := (10 : Int32)) dX2_documentsOfWord_31 rfl ?_
      refine go_idiv dX2_documentsOfWord_33 (by decide) ?_
      refine go_ishl dX2_documentsOfWord_34 ?_
      refine go_ior dX2_documentsOfWord_35 ?_
      refine go_istoren (loc2 := [none, some (aA v1), some (aI v2), some (aI (v3 ||| (ishlF (1 : Int32) (v4 / (10 : Int32))))), some (aI v4)]) dX2_documentsOfWord_36 rfl (by decide) rfl ?_
      exact okj_X2_documentsOfWord_37 v1 v2 (v3 ||| (ishlF (1 : Int32) (v4 / (10 : Int32)))) v4 h k Hk H
def l_X2_documentsOfWord_5 (v1 : Nat) (v2 : Int32) (h : Hp) (v3 : Int32) (v4 : Int32) : Option Int32 := loopK FUEL (fun (k : Int32 × Int32 → Option Int32) (s : Int32 × Int32) => b_X2_documentsOfWord_5 v1 v2 h (fun v3q v4q => k (v3q, v4q)) s.1 s.2) (v3, v4)
theorem okl_X2_documentsOfWord_5 {r : Int32} (v1 : Nat) (v2 : Int32) (h : Hp) (v3 : Int32) (v4 : Int32) (H : l_X2_documentsOfWord_5 v1 v2 h v3 v4 = some r) : Go M_X2_documentsOfWord (some (aI r), h) 5 [none, some (aA v1), some (aI v2), some (aI v3), some (aI v4)] [] h := by
  unfold l_X2_documentsOfWord_5 at H
  exact go_loop (σ := Int32 × Int32) (body := (fun (k : Int32 × Int32 → Option Int32) (s : Int32 × Int32) => b_X2_documentsOfWord_5 v1 v2 h (fun v3q v4q => k (v3q, v4q)) s.1 s.2)) (fun s => [none, some (aA v1), some (aI v2), some (aI s.1), some (aI s.2)]) (fun s => h) (fun k s Hk H => okb_X2_documentsOfWord_5 v1 v2 h (fun v3q v4q => k (v3q, v4q)) s.1 s.2  (fun v3q v4q H => Hk (v3q, v4q) H) H) FUEL (v3, v4) H
def m_X2_documentsOfWord (v0 : Nat) (v1 : Nat) (v2 : Int32) (h : Hp) : Option Int32 :=
  l_X2_documentsOfWord_5 v1 v2 h (0 : Int32) (0 : Int32)
set_option maxRecDepth 20000 in
theorem ok_X2_documentsOfWord {r : Int32} {v0 : Nat} {v1 : Nat} {v2 : Int32} {h : Hp} (H : m_X2_documentsOfWord v0 v1 v2 h = some r) : Ev M_X2_documentsOfWord [aA v0, aA v1, aI v2] h (some (aI r), h) := by
  show Go M_X2_documentsOfWord (some (aI r), h) 0 [some (aA v0), some (aA v1), some (aI v2), none, none] [] h
  unfold m_X2_documentsOfWord at H
  refine go_iconst (v := (0 : Int32)) dX2_documentsOfWord_0 rfl ?_
  refine go_istoren (loc2 := [some (aA v0), some (aA v1), some (aI v2), some (aI (0 : Int32)), none]) dX2_documentsOfWord_1 rfl (by decide) rfl ?_
  refine go_iconst (v := (0 : Int32)) dX2_documentsOfWord_2 rfl ?_
  refine go_istore (loc2 := [some (aA v0), some (aA v1), some (aI v2), some (aI (0 : Int32)), some (aI (0 : Int32))]) dX2_documentsOfWord_3 (by decide) rfl ?_
  refine go_mask [false, true, true, true, true] (loc' := [none, some (aA v1), some (aI v2), some (aI (0 : Int32)), some (aI (0 : Int32))]) rfl ?_
  exact okl_X2_documentsOfWord_5 v1 v2 h (0 : Int32) (0 : Int32) H
/-! X2_firstDateOfWord -/
def j_X2_firstDateOfWord_52 (v1 : Nat) (v2 : Int32) (v3 : Int32) (v4 : Int32)  (h : Hp) (k : Int32 → Int32 → Option Int32) : Option Int32 :=
  k v3 (v4 + (1 : Int32))
set_option maxRecDepth 20000 in
theorem okj_X2_firstDateOfWord_52 {r : Int32} (v1 : Nat) (v2 : Int32) (v3 : Int32) (v4 : Int32)  (h : Hp) (k : Int32 → Int32 → Option Int32) (Hk : ∀ (v3q : Int32) (v4q : Int32), k v3q v4q = some r → Go M_X2_firstDateOfWord (some (aI r), h) 5 [none, some (aA v1), some (aI v2), some (aI v3q), some (aI v4q), none] [] h) (H : j_X2_firstDateOfWord_52 v1 v2 v3 v4 h k = some r) : Go M_X2_firstDateOfWord (some (aI r), h) 52 [none, some (aA v1), some (aI v2), some (aI v3), some (aI v4), none] [] h := by
  unfold j_X2_firstDateOfWord_52 at H
  refine go_iinc (v := (v4 + (1 : Int32))) (loc2 := [none, some (aA v1), some (aI v2), some (aI v3), some (aI (v4 + (1 : Int32))), none]) dX2_firstDateOfWord_52 rfl rfl (by decide) rfl ?_
  refine go_goto (tgt := 5) dX2_firstDateOfWord_55 (by decide) ?_
  exact Hk v3 (v4 + (1 : Int32)) H
def j_X2_firstDateOfWord_49 (v1 : Nat) (v2 : Int32) (v4 : Int32) (v5 : Int32)  (h : Hp) (k : Int32 → Int32 → Option Int32) : Option Int32 :=
  j_X2_firstDateOfWord_52 v1 v2 v5 v4 h k
set_option maxRecDepth 20000 in
theorem okj_X2_firstDateOfWord_49 {r : Int32} (v1 : Nat) (v2 : Int32) (v4 : Int32) (v5 : Int32)  (h : Hp) (k : Int32 → Int32 → Option Int32) (Hk : ∀ (v3q : Int32) (v4q : Int32), k v3q v4q = some r → Go M_X2_firstDateOfWord (some (aI r), h) 5 [none, some (aA v1), some (aI v2), some (aI v3q), some (aI v4q), none] [] h) (H : j_X2_firstDateOfWord_49 v1 v2 v4 v5 h k = some r) : Go M_X2_firstDateOfWord (some (aI r), h) 49 [none, some (aA v1), some (aI v2), none, some (aI v4), some (aI v5)] [] h := by
  unfold j_X2_firstDateOfWord_49 at H
  refine go_iload dX2_firstDateOfWord_49 rfl ?_
  refine go_istoren (loc2 := [none, some (aA v1), some (aI v2), some (aI v5), some (aI v4), some (aI v5)]) dX2_firstDateOfWord_51 rfl (by decide) rfl ?_
  refine go_mask [false, true, true, true, true, false] (loc' := [none, some (aA v1), some (aI v2), some (aI v5), some (aI v4), none]) rfl ?_
  exact okj_X2_firstDateOfWord_52 v1 v2 v5 v4 h k Hk H
def b_X2_firstDateOfWord_5 (v1 : Nat) (v2 : Int32) (h : Hp) (k : Int32 → Int32 → Option Int32) (v3 : Int32) (v4 : Int32) : Option Int32 :=
  if (40 : Int32) ≤ v4 then (some v3) else (gfR h v1 1 4).bind fun x1 => (m_X5_at x1 v4 h).bind fun x2 => (rc h v1 1 (m_X0_slotsOfWord v1 v2 h)).bind fun x3 => if ¬ (lg_cmp ((lushrF x3 v4) &&& (1 : Int64)) (1 : Int64)) = 0 then j_X2_firstDateOfWord_52 v1 v2 v3 v4 h k else if v3 = (-1 : Int32) then j_X2_firstDateOfWord_49 v1 v2 v4 x2 h k else if v3 ≤ x2 then j_X2_firstDateOfWord_52 v1 v2 v3 v4 h k else j_X2_firstDateOfWord_49 v1 v2 v4 x2 h k
set_option maxRecDepth 20000 in
theorem okb_X2_firstDateOfWord_5 {r : Int32} (v1 : Nat) (v2 : Int32) (h : Hp) (k : Int32 → Int32 → Option Int32) (v3 : Int32) (v4 : Int32) (Hk : ∀ (v3q : Int32) (v4q : Int32), k v3q v4q = some r → Go M_X2_firstDateOfWord (some (aI r), h) 5 [none, some (aA v1), some (aI v2), some (aI v3q), some (aI v4q), none] [] h) (H : b_X2_firstDateOfWord_5 v1 v2 h k v3 v4 = some r) : Go M_X2_firstDateOfWord (some (aI r), h) 5 [none, some (aA v1), some (aI v2), some (aI v3), some (aI v4), none] [] h := by
  unfold b_X2_firstDateOfWord_5 at H
  refine go_iload dX2_firstDateOfWord_5 rfl ?_
  refine go_bipush (v := (40 : Int32)) dX2_firstDateOfWord_7 rfl ?_
  refine go_icmp_ge (tgt := 58) dX2_firstDateOfWord_9 (by decide) (fun c1 => ?_) (fun c1 => ?_)
  · replace H := (gm_ite H).1 c1
    refine go_iloadn dX2_firstDateOfWord_58 rfl ?_
    obtain rfl := Option.some.inj H
    exact go_ireturn dX2_firstDateOfWord_59 (tyI_int rfl)
  · replace H := (gm_ite H).2 c1
    refine go_aloadn dX2_firstDateOfWord_12 rfl ?_
    refine gm_getR fd_X2_110 dX2_firstDateOfWord_13 H (fun x1 H => ?_)
    refine go_iload dX2_firstDateOfWord_16 rfl ?_
    obtain ⟨x2, ex2, H⟩ := bind_some H
    refine go_callS (vs := [aA x1, aI v4]) (stk := []) (o1 := (some (aI x2), h)) mk_X5_at ss_X2_firstDateOfWord_102 dX2_firstDateOfWord_18 rfl rfl (Nat.le_of_ble_eq_true rfl) (Nat.le_of_ble_eq_true rfl) (ok_X5_at ex2) (show Go M_X2_firstDateOfWord (some (aI r), h) 21 [none, some (aA v1), some (aI v2), some (aI v3), some (aI v4), none] [aI x2] h from ?_)
    refine go_istore (loc2 := [none, some (aA v1), some (aI v2), some (aI v3), some (aI v4), some (aI x2)]) dX2_firstDateOfWord_21 (by decide) rfl ?_
    refine go_aloadn dX2_firstDateOfWord_23 rfl ?_
    refine go_iloadn dX2_firstDateOfWord_24 rfl ?_
    obtain ⟨c3, x3, ex3, H⟩ := gm_rc H
    refine go_callV (vs := [aI v2]) (stk := []) (o1 := (some (aL x3), h)) mk_X0_slotsOfWord sv_X2_firstDateOfWord_106 cl_X0 rfl dX2_firstDateOfWord_25 c3 rfl rfl (Nat.le_of_ble_eq_true rfl) (Nat.le_of_ble_eq_true rfl) (ok_X0_slotsOfWord ex3) (show Go M_X2_firstDateOfWord (some (aI r), h) 28 [none, some (aA v1), some (aI v2), some (aI v3), some (aI v4), some (aI x2)] [aL x3] h from ?_)
    refine go_iload dX2_firstDateOfWord_28 rfl ?_
    refine go_lushr dX2_firstDateOfWord_30 ?_
    refine go_lconst (v := (1 : Int64)) dX2_firstDateOfWord_31 rfl ?_
    refine go_land dX2_firstDateOfWord_32 ?_
    refine go_lconst (v := (1 : Int64)) dX2_firstDateOfWord_33 rfl ?_
    refine go_lcmp dX2_firstDateOfWord_34 ?_
    refine go_if_ne (tgt := 52) dX2_firstDateOfWord_35 (by decide) (fun c4 => ?_) (fun c4 => ?_)
    · replace H := (gm_ite H).1 c4
      refine go_mask [false, true, true, true, true, false] (loc' := [none, some (aA v1), some (aI v2), some (aI v3), some (aI v4), none]) rfl ?_
      exact okj_X2_firstDateOfWord_52 v1 v2 v3 v4 h k Hk H
    · replace H := (gm_ite H).2 c4
      refine go_iloadn dX2_firstDateOfWord_38 rfl ?_
      refine go_iconst (v := (-1 : Int32)) dX2_firstDateOfWord_39 rfl ?_
      refine go_icmp_eq (tgt := 49) dX2_firstDateOfWord_40 (by decide) (fun c5 => ?_) (fun c5 => ?_)
      · replace H := (gm_ite H).1 c5
        refine go_mask [false, true, true, false, true, true] (loc' := [none, some (aA v1), some (aI v2), none, some (aI v4), some (aI x2)]) rfl ?_
        exact okj_X2_firstDateOfWord_49 v1 v2 v4 x2 h k Hk H
      · replace H := (gm_ite H).2 c5
        refine go_iload dX2_firstDateOfWord_43 rfl ?_
        refine go_iloadn dX2_firstDateOfWord_45 rfl ?_
        refine go_icmp_ge (tgt := 52) dX2_firstDateOfWord_46 (by decide) (fun c6 => ?_) (fun c6 => ?_)
        · replace H := (gm_ite H).1 c6
          refine go_mask [false, true, true, true, true, false] (loc' := [none, some (aA v1), some (aI v2), some (aI v3), some (aI v4), none]) rfl ?_
          exact okj_X2_firstDateOfWord_52 v1 v2 v3 v4 h k Hk H
        · replace H := (gm_ite H).2 c6
          refine go_mask [false, true, true, false, true, true] (loc' := [none, some (aA v1), some (aI v2), none, some (aI v4), some (aI x2)]) rfl ?_
          exact okj_X2_firstDateOfWord_49 v1 v2 v4 x2 h k Hk H
def l_X2_firstDateOfWord_5 (v1 : Nat) (v2 : Int32) (h : Hp) (v3 : Int32) (v4 : Int32) : Option Int32 := loopK FUEL (fun (k : Int32 × Int32 → Option Int32) (s : Int32 × Int32) => b_X2_firstDateOfWord_5 v1 v2 h (fun v3q v4q => k (v3q, v4q)) s.1 s.2) (v3, v4)
theorem okl_X2_firstDateOfWord_5 {r : Int32} (v1 : Nat) (v2 : Int32) (h : Hp) (v3 : Int32) (v4 : Int32) (H : l_X2_firstDateOfWord_5 v1 v2 h v3 v4 = some r) : Go M_X2_firstDateOfWord (some (aI r), h) 5 [none, some (aA v1), some (aI v2), some (aI v3), some (aI v4), none] [] h := by
  unfold l_X2_firstDateOfWord_5 at H
  exact go_loop (σ := Int32 × Int32) (body := (fun (k : Int32 × Int32 → Option Int32) (s : Int32 × Int32) => b_X2_firstDateOfWord_5 v1 v2 h (fun v3q v4q => k (v3q, v4q)) s.1 s.2)) (fun s => [none, some (aA v1), some (aI v2), some (aI s.1), some (aI s.2), none]) (fun s => h) (fun k s Hk H => okb_X2_firstDateOfWord_5 v1 v2 h (fun v3q v4q => k (v3q, v4q)) s.1 s.2  (fun v3q v4q H => Hk (v3q, v4q) H) H) FUEL (v3, v4) H
def m_X2_firstDateOfWord (v0 : Nat) (v1 : Nat) (v2 : Int32) (h : Hp) : Option Int32 :=
  l_X2_firstDateOfWord_5 v1 v2 h (-1 : Int32) (0 : Int32)
set_option maxRecDepth 20000 in
theorem ok_X2_firstDateOfWord {r : Int32} {v0 : Nat} {v1 : Nat} {v2 : Int32} {h : Hp} (H : m_X2_firstDateOfWord v0 v1 v2 h = some r) : Ev M_X2_firstDateOfWord [aA v0, aA v1, aI v2] h (some (aI r), h) := by
  show Go M_X2_firstDateOfWord (some (aI r), h) 0 [some (aA v0), some (aA v1), some (aI v2), none, none, none] [] h
  unfold m_X2_firstDateOfWord at H
  refine go_iconst (v := (-1 : Int32)) dX2_firstDateOfWord_0 rfl ?_
  refine go_istoren (loc2 := [some (aA v0), some (aA v1), some (aI v2), some (aI (-1 : Int32)), none, none]) dX2_firstDateOfWord_1 rfl (by decide) rfl ?_
  refine go_iconst (v := (0 : Int32)) dX2_firstDateOfWord_2 rfl ?_
  refine go_istore (loc2 := [some (aA v0), some (aA v1), some (aI v2), some (aI (-1 : Int32)), some (aI (0 : Int32)), none]) dX2_firstDateOfWord_3 (by decide) rfl ?_
  refine go_mask [false, true, true, true, true, false] (loc' := [none, some (aA v1), some (aI v2), some (aI (-1 : Int32)), some (aI (0 : Int32)), none]) rfl ?_
  exact okl_X2_firstDateOfWord_5 v1 v2 h (-1 : Int32) (0 : Int32) H
/-! X2_timesIn -/
def j_X2_timesIn_36 (v0 : Nat) (v1 : Int32) (v2 : Int32) (v3 : Int32) (v5 : Int32) (s0 : Int32) (s1 : Int32) (h : Hp) (k : Int32 → Int32 → Option Int32) : Option Int32 :=
  k (s0 + s1) (v5 + (1 : Int32))
set_option maxRecDepth 20000 in
theorem okj_X2_timesIn_36 {r : Int32} (v0 : Nat) (v1 : Int32) (v2 : Int32) (v3 : Int32) (v5 : Int32) (s0 : Int32) (s1 : Int32) (h : Hp) (k : Int32 → Int32 → Option Int32) (Hk : ∀ (v4q : Int32) (v5q : Int32), k v4q v5q = some r → Go M_X2_timesIn (some (aI r), h) 6 [some (aA v0), some (aI v1), some (aI v2), some (aI v3), some (aI v4q), some (aI v5q)] [] h) (H : j_X2_timesIn_36 v0 v1 v2 v3 v5 s0 s1 h k = some r) : Go M_X2_timesIn (some (aI r), h) 36 [some (aA v0), some (aI v1), some (aI v2), some (aI v3), none, some (aI v5)] [aI s1, aI s0] h := by
  unfold j_X2_timesIn_36 at H
  refine go_iadd dX2_timesIn_36 ?_
  refine go_istore (loc2 := [some (aA v0), some (aI v1), some (aI v2), some (aI v3), some (aI (s0 + s1)), some (aI v5)]) dX2_timesIn_37 (by decide) rfl ?_
  refine go_iinc (v := (v5 + (1 : Int32))) (loc2 := [some (aA v0), some (aI v1), some (aI v2), some (aI v3), some (aI (s0 + s1)), some (aI (v5 + (1 : Int32)))]) dX2_timesIn_39 rfl rfl (by decide) rfl ?_
  refine go_goto (tgt := 6) dX2_timesIn_42 (by decide) ?_
  exact Hk (s0 + s1) (v5 + (1 : Int32)) H
def b_X2_timesIn_6 (v0 : Nat) (v1 : Int32) (v2 : Int32) (v3 : Int32) (h : Hp) (k : Int32 → Int32 → Option Int32) (v4 : Int32) (v5 : Int32) : Option Int32 :=
  (rc h v0 1 (m_X0_lengthOf v0 v2 v3 h)).bind fun x1 => if x1 ≤ v5 then (some v4) else (rc h v0 1 (m_X0_spellingAt v0 v2 v3 v5 h)).bind fun x2 => j_X2_timesIn_36 v0 v1 v2 v3 v5 v4 (if ¬ x2 = v1 then (0 : Int32) else (1 : Int32)) h k
set_option maxRecDepth 20000 in
theorem okb_X2_timesIn_6 {r : Int32} (v0 : Nat) (v1 : Int32) (v2 : Int32) (v3 : Int32) (h : Hp) (k : Int32 → Int32 → Option Int32) (v4 : Int32) (v5 : Int32) (Hk : ∀ (v4q : Int32) (v5q : Int32), k v4q v5q = some r → Go M_X2_timesIn (some (aI r), h) 6 [some (aA v0), some (aI v1), some (aI v2), some (aI v3), some (aI v4q), some (aI v5q)] [] h) (H : b_X2_timesIn_6 v0 v1 v2 v3 h k v4 v5 = some r) : Go M_X2_timesIn (some (aI r), h) 6 [some (aA v0), some (aI v1), some (aI v2), some (aI v3), some (aI v4), some (aI v5)] [] h := by
  unfold b_X2_timesIn_6 at H
  refine go_iload dX2_timesIn_6 rfl ?_
  refine go_aloadn dX2_timesIn_8 rfl ?_
  refine go_iloadn dX2_timesIn_9 rfl ?_
  refine go_iloadn dX2_timesIn_10 rfl ?_
  obtain ⟨c1, x1, ex1, H⟩ := gm_rc H
  refine go_callV (vs := [aI v2, aI v3]) (stk := [aI v5]) (o1 := (some (aI x1), h)) mk_X0_lengthOf sv_X2_timesIn_25 cl_X0 rfl dX2_timesIn_11 c1 rfl rfl (Nat.le_of_ble_eq_true rfl) (Nat.le_of_ble_eq_true rfl) (ok_X0_lengthOf ex1) (show Go M_X2_timesIn (some (aI r), h) 14 [some (aA v0), some (aI v1), some (aI v2), some (aI v3), some (aI v4), some (aI v5)] [aI x1, aI v5] h from ?_)
  refine go_icmp_ge (tgt := 45) dX2_timesIn_14 (by decide) (fun c2 => ?_) (fun c2 => ?_)
  · replace H := (gm_ite H).1 c2
    refine go_iload dX2_timesIn_45 rfl ?_
    obtain rfl := Option.some.inj H
    exact go_ireturn dX2_timesIn_47 (tyI_int rfl)
  · replace H := (gm_ite H).2 c2
    refine go_iload dX2_timesIn_17 rfl ?_
    refine go_aloadn dX2_timesIn_19 rfl ?_
    refine go_iloadn dX2_timesIn_20 rfl ?_
    refine go_iloadn dX2_timesIn_21 rfl ?_
    refine go_iload dX2_timesIn_22 rfl ?_
    obtain ⟨c3, x2, ex2, H⟩ := gm_rc H
    refine go_callV (vs := [aI v2, aI v3, aI v5]) (stk := [aI v4]) (o1 := (some (aI x2), h)) mk_X0_spellingAt sv_X2_timesIn_51 cl_X0 rfl dX2_timesIn_24 c3 rfl rfl (Nat.le_of_ble_eq_true rfl) (Nat.le_of_ble_eq_true rfl) (ok_X0_spellingAt ex2) (show Go M_X2_timesIn (some (aI r), h) 27 [some (aA v0), some (aI v1), some (aI v2), some (aI v3), some (aI v4), some (aI v5)] [aI x2, aI v4] h from ?_)
    refine go_iloadn dX2_timesIn_27 rfl ?_
    refine go_icmp_ne (tgt := 35) dX2_timesIn_28 (by decide) (fun c4 => ?_) (fun c4 => ?_)
    · rw [if_pos c4] at H
      refine go_iconst (v := (0 : Int32)) dX2_timesIn_35 rfl ?_
      refine go_mask [true, true, true, true, false, true] (loc' := [some (aA v0), some (aI v1), some (aI v2), some (aI v3), none, some (aI v5)]) rfl ?_
      exact okj_X2_timesIn_36 v0 v1 v2 v3 v5 v4 (0 : Int32) h k Hk H
    · rw [if_neg c4] at H
      refine go_iconst (v := (1 : Int32)) dX2_timesIn_31 rfl ?_
      refine go_goto (tgt := 36) dX2_timesIn_32 (by decide) ?_
      refine go_mask [true, true, true, true, false, true] (loc' := [some (aA v0), some (aI v1), some (aI v2), some (aI v3), none, some (aI v5)]) rfl ?_
      exact okj_X2_timesIn_36 v0 v1 v2 v3 v5 v4 (1 : Int32) h k Hk H
def l_X2_timesIn_6 (v0 : Nat) (v1 : Int32) (v2 : Int32) (v3 : Int32) (h : Hp) (v4 : Int32) (v5 : Int32) : Option Int32 := loopK FUEL (fun (k : Int32 × Int32 → Option Int32) (s : Int32 × Int32) => b_X2_timesIn_6 v0 v1 v2 v3 h (fun v4q v5q => k (v4q, v5q)) s.1 s.2) (v4, v5)
theorem okl_X2_timesIn_6 {r : Int32} (v0 : Nat) (v1 : Int32) (v2 : Int32) (v3 : Int32) (h : Hp) (v4 : Int32) (v5 : Int32) (H : l_X2_timesIn_6 v0 v1 v2 v3 h v4 v5 = some r) : Go M_X2_timesIn (some (aI r), h) 6 [some (aA v0), some (aI v1), some (aI v2), some (aI v3), some (aI v4), some (aI v5)] [] h := by
  unfold l_X2_timesIn_6 at H
  exact go_loop (σ := Int32 × Int32) (body := (fun (k : Int32 × Int32 → Option Int32) (s : Int32 × Int32) => b_X2_timesIn_6 v0 v1 v2 v3 h (fun v4q v5q => k (v4q, v5q)) s.1 s.2)) (fun s => [some (aA v0), some (aI v1), some (aI v2), some (aI v3), some (aI s.1), some (aI s.2)]) (fun s => h) (fun k s Hk H => okb_X2_timesIn_6 v0 v1 v2 v3 h (fun v4q v5q => k (v4q, v5q)) s.1 s.2  (fun v4q v5q H => Hk (v4q, v5q) H) H) FUEL (v4, v5) H
def m_X2_timesIn (v0 : Nat) (v1 : Int32) (v2 : Int32) (v3 : Int32) (h : Hp) : Option Int32 :=
  l_X2_timesIn_6 v0 v1 v2 v3 h (0 : Int32) (0 : Int32)
set_option maxRecDepth 20000 in
theorem ok_X2_timesIn {r : Int32} {v0 : Nat} {v1 : Int32} {v2 : Int32} {v3 : Int32} {h : Hp} (H : m_X2_timesIn v0 v1 v2 v3 h = some r) : Ev M_X2_timesIn [aA v0, aI v1, aI v2, aI v3] h (some (aI r), h) := by
  show Go M_X2_timesIn (some (aI r), h) 0 [some (aA v0), some (aI v1), some (aI v2), some (aI v3), none, none] [] h
  unfold m_X2_timesIn at H
  refine go_iconst (v := (0 : Int32)) dX2_timesIn_0 rfl ?_
  refine go_istore (loc2 := [some (aA v0), some (aI v1), some (aI v2), some (aI v3), some (aI (0 : Int32)), none]) dX2_timesIn_1 (by decide) rfl ?_
  refine go_iconst (v := (0 : Int32)) dX2_timesIn_3 rfl ?_
  refine go_istore (loc2 := [some (aA v0), some (aI v1), some (aI v2), some (aI v3), some (aI (0 : Int32)), some (aI (0 : Int32))]) dX2_timesIn_4 (by decide) rfl ?_
  exact okl_X2_timesIn_6 v0 v1 v2 v3 h (0 : Int32) (0 : Int32) H
/-! X2_spread -/
def b_X2_spread_17 (v1 : Nat) (v2 : Int32) (v4 : Int32) (h : Hp) (K52 : Int32 → Option Int32) (k : Int32 → Int32 → Option Int32) (v3 : Int32) (v5 : Int32) : Option Int32 :=
  (rc h v1 1 (m_X0_versionsOf v1 v4 h)).bind fun x1 => if x1 ≤ v5 then K52 v3 else (rc h v1 1 (m_X0_wordAt v1 v2 h)).bind fun x2 => (m_X2_timesIn v1 x2 v4 v5 h).bind fun x3 => (m_J9_max_7cf53 v3 x3 h).bind fun x4 => k x4 (v5 + (1 : Int32))
set_option maxRecDepth 20000 in
theorem okb_X2_spread_17 {r : Int32} (v1 : Nat) (v2 : Int32) (v4 : Int32) (h : Hp) (K52 : Int32 → Option Int32) (k : Int32 → Int32 → Option Int32) (v3 : Int32) (v5 : Int32) (HK52 : ∀ (v3q : Int32) , K52 v3q = some r → Go M_X2_spread (some (aI r), h) 52 [none, some (aA v1), some (aI v2), some (aI v3q), some (aI v4), none] [] h) (Hk : ∀ (v3q : Int32) (v5q : Int32), k v3q v5q = some r → Go M_X2_spread (some (aI r), h) 17 [none, some (aA v1), some (aI v2), some (aI v3q), some (aI v4), some (aI v5q)] [] h) (H : b_X2_spread_17 v1 v2 v4 h K52 k v3 v5 = some r) : Go M_X2_spread (some (aI r), h) 17 [none, some (aA v1), some (aI v2), some (aI v3), some (aI v4), some (aI v5)] [] h := by
  unfold b_X2_spread_17 at H
  refine go_iload dX2_spread_17 rfl ?_
  refine go_aloadn dX2_spread_19 rfl ?_
  refine go_iload dX2_spread_20 rfl ?_
  obtain ⟨c1, x1, ex1, H⟩ := gm_rc H
  refine go_callV (vs := [aI v4]) (stk := [aI v5]) (o1 := (some (aI x1), h)) mk_X0_versionsOf sv_X2_spread_21 cl_X0 rfl dX2_spread_22 c1 rfl rfl (Nat.le_of_ble_eq_true rfl) (Nat.le_of_ble_eq_true rfl) (ok_X0_versionsOf ex1) (show Go M_X2_spread (some (aI r), h) 25 [none, some (aA v1), some (aI v2), some (aI v3), some (aI v4), some (aI v5)] [aI x1, aI v5] h from ?_)
  refine go_icmp_ge (tgt := 52) dX2_spread_25 (by decide) (fun c2 => ?_) (fun c2 => ?_)
  · replace H := (gm_ite H).1 c2
    refine go_mask [false, true, true, true, true, false] (loc' := [none, some (aA v1), some (aI v2), some (aI v3), some (aI v4), none]) rfl ?_
    exact HK52 v3 H
  · replace H := (gm_ite H).2 c2
    refine go_iloadn dX2_spread_28 rfl ?_
    refine go_aloadn dX2_spread_29 rfl ?_
    refine go_aloadn dX2_spread_30 rfl ?_
    refine go_iloadn dX2_spread_31 rfl ?_
    obtain ⟨c3, x2, ex2, H⟩ := gm_rc H
    refine go_callV (vs := [aI v2]) (stk := [aA v1, aI v3]) (o1 := (some (aI x2), h)) mk_X0_wordAt sv_X2_spread_113 cl_X0 rfl dX2_spread_32 c3 rfl rfl (Nat.le_of_ble_eq_true rfl) (Nat.le_of_ble_eq_true rfl) (ok_X0_wordAt ex2) (show Go M_X2_spread (some (aI r), h) 35 [none, some (aA v1), some (aI v2), some (aI v3), some (aI v4), some (aI v5)] [aI x2, aA v1, aI v3] h from ?_)
    refine go_iload dX2_spread_35 rfl ?_
    refine go_iload dX2_spread_37 rfl ?_
    obtain ⟨x3, ex3, H⟩ := bind_some H
    refine go_callS (vs := [aA v1, aI x2, aI v4, aI v5]) (stk := [aI v3]) (o1 := (some (aI x3), h)) mk_X2_timesIn ss_X2_spread_116 dX2_spread_39 rfl rfl (Nat.le_of_ble_eq_true rfl) (Nat.le_of_ble_eq_true rfl) (ok_X2_timesIn ex3) (show Go M_X2_spread (some (aI r), h) 42 [none, some (aA v1), some (aI v2), some (aI v3), some (aI v4), some (aI v5)] [aI x3, aI v3] h from ?_)
    obtain ⟨x4, ex4, H⟩ := bind_some H
    refine go_callS (vs := [aI v3, aI x3]) (stk := []) (o1 := (some (aI x4), h)) mk_J9_max_7cf53 ss_X2_spread_65 dX2_spread_42 rfl rfl (Nat.le_of_ble_eq_true rfl) (Nat.le_of_ble_eq_true rfl) (ok_J9_max_7cf53 ex4) (show Go M_X2_spread (some (aI r), h) 45 [none, some (aA v1), some (aI v2), some (aI v3), some (aI v4), some (aI v5)] [aI x4] h from ?_)
    refine go_istoren (loc2 := [none, some (aA v1), some (aI v2), some (aI x4), some (aI v4), some (aI v5)]) dX2_spread_45 rfl (by decide) rfl ?_
    refine go_iinc (v := (v5 + (1 : Int32))) (loc2 := [none, some (aA v1), some (aI v2), some (aI x4), some (aI v4), some (aI (v5 + (1 : Int32)))]) dX2_spread_46 rfl rfl (by decide) rfl ?_
    refine go_goto (tgt := 17) dX2_spread_49 (by decide) ?_
    exact Hk x4 (v5 + (1 : Int32)) H
def l_X2_spread_17 (v1 : Nat) (v2 : Int32) (v4 : Int32) (h : Hp) (K52 : Int32 → Option Int32) (v3 : Int32) (v5 : Int32) : Option Int32 := loopK FUEL (fun (k : Int32 × Int32 → Option Int32) (s : Int32 × Int32) => b_X2_spread_17 v1 v2 v4 h K52 (fun v3q v5q => k (v3q, v5q)) s.1 s.2) (v3, v5)
theorem okl_X2_spread_17 {r : Int32} (v1 : Nat) (v2 : Int32) (v4 : Int32) (h : Hp) (K52 : Int32 → Option Int32) (v3 : Int32) (v5 : Int32) (HK52 : ∀ (v3q : Int32) , K52 v3q = some r → Go M_X2_spread (some (aI r), h) 52 [none, some (aA v1), some (aI v2), some (aI v3q), some (aI v4), none] [] h) (H : l_X2_spread_17 v1 v2 v4 h K52 v3 v5 = some r) : Go M_X2_spread (some (aI r), h) 17 [none, some (aA v1), some (aI v2), some (aI v3), some (aI v4), some (aI v5)] [] h := by
  unfold l_X2_spread_17 at H
  exact go_loop (σ := Int32 × Int32) (body := (fun (k : Int32 × Int32 → Option Int32) (s : Int32 × Int32) => b_X2_spread_17 v1 v2 v4 h K52 (fun v3q v5q => k (v3q, v5q)) s.1 s.2)) (fun s => [none, some (aA v1), some (aI v2), some (aI s.1), some (aI v4), some (aI s.2)]) (fun s => h) (fun k s Hk H => okb_X2_spread_17 v1 v2 v4 h K52 (fun v3q v5q => k (v3q, v5q)) s.1 s.2 HK52 (fun v3q v5q H => Hk (v3q, v5q) H) H) FUEL (v3, v5) H
def j_X2_spread_52 (v1 : Nat) (v2 : Int32) (v3 : Int32) (v4 : Int32)  (h : Hp) (k : Int32 → Int32 → Option Int32) : Option Int32 :=
  k v3 (v4 + (1 : Int32))
set_option maxRecDepth 20000 in
theorem okj_X2_spread_52 {r : Int32} (v1 : Nat) (v2 : Int32) (v3 : Int32) (v4 : Int32)  (h : Hp) (k : Int32 → Int32 → Option Int32) (Hk : ∀ (v3q : Int32) (v4q : Int32), k v3q v4q = some r → Go M_X2_spread (some (aI r), h) 5 [none, some (aA v1), some (aI v2), some (aI v3q), some (aI v4q), none] [] h) (H : j_X2_spread_52 v1 v2 v3 v4 h k = some r) : Go M_X2_spread (some (aI r), h) 52 [none, some (aA v1), some (aI v2), some (aI v3), some (aI v4), none] [] h := by
  unfold j_X2_spread_52 at H
  refine go_iinc (v := (v4 + (1 : Int32))) (loc2 := [none, some (aA v1), some (aI v2), some (aI v3), some (aI (v4 + (1 : Int32))), none]) dX2_spread_52 rfl rfl (by decide) rfl ?_
  refine go_goto (tgt := 5) dX2_spread_55 (by decide) ?_
  exact Hk v3 (v4 + (1 : Int32)) H
def b_X2_spread_5 (v1 : Nat) (v2 : Int32) (h : Hp) (k : Int32 → Int32 → Option Int32) (v3 : Int32) (v4 : Int32) : Option Int32 :=
  (gfI h v1 1 0).bind fun x1 => if x1 ≤ v4 then (some v3) else l_X2_spread_17 v1 v2 v4 h (fun a2_3 => j_X2_spread_52 v1 v2 a2_3 v4 h k) v3 (0 : Int32)
set_option maxRecDepth 20000 in
theorem okb_X2_spread_5 {r : Int32} (v1 : Nat) (v2 : Int32) (h : Hp) (k : Int32 → Int32 → Option Int32) (v3 : Int32) (v4 : Int32) (Hk : ∀ (v3q : Int32) (v4q : Int32), k v3q v4q = some r → Go M_X2_spread (some (aI r), h) 5 [none, some (aA v1), some (aI v2), some (aI v3q), some (aI v4q), none] [] h) (H : b_X2_spread_5 v1 v2 h k v3 v4 = some r) : Go M_X2_spread (some (aI r), h) 5 [none, some (aA v1), some (aI v2), some (aI v3), some (aI v4), none] [] h := by
  unfold b_X2_spread_5 at H
  refine go_iload dX2_spread_5 rfl ?_
  refine go_aloadn dX2_spread_7 rfl ?_
  refine gm_getI fd_X2_17 dX2_spread_8 H (fun x1 H => ?_)
  refine go_icmp_ge (tgt := 58) dX2_spread_11 (by decide) (fun c1 => ?_) (fun c1 => ?_)
  · replace H := (gm_ite H).1 c1
    refine go_iloadn dX2_spread_58 rfl ?_
    obtain rfl := Option.some.inj H
    exact go_ireturn dX2_spread_59 (tyI_int rfl)
  · replace H := (gm_ite H).2 c1
    refine go_iconst (v := (0 : Int32)) dX2_spread_14 rfl ?_
    refine go_istore (loc2 := [none, some (aA v1), some (aI v2), some (aI v3), some (aI v4), some (aI (0 : Int32))]) dX2_spread_15 (by decide) rfl ?_
    refine okl_X2_spread_17 v1 v2 v4 h (fun a2_3 => j_X2_spread_52 v1 v2 a2_3 v4 h k) v3 (0 : Int32) ?_ H
    · intro a2_3 H
      exact okj_X2_spread_52 v1 v2 a2_3 v4 h k Hk H
def l_X2_spread_5 (v1 : Nat) (v2 : Int32) (h : Hp) (v3 : Int32) (v4 : Int32) : Option Int32 := loopK FUEL (fun (k : Int32 × Int32 → Option Int32) (s : Int32 × Int32) => b_X2_spread_5 v1 v2 h (fun v3q v4q => k (v3q, v4q)) s.1 s.2) (v3, v4)
theorem okl_X2_spread_5 {r : Int32} (v1 : Nat) (v2 : Int32) (h : Hp) (v3 : Int32) (v4 : Int32) (H : l_X2_spread_5 v1 v2 h v3 v4 = some r) : Go M_X2_spread (some (aI r), h) 5 [none, some (aA v1), some (aI v2), some (aI v3), some (aI v4), none] [] h := by
  unfold l_X2_spread_5 at H
  exact go_loop (σ := Int32 × Int32) (body := (fun (k : Int32 × Int32 → Option Int32) (s : Int32 × Int32) => b_X2_spread_5 v1 v2 h (fun v3q v4q => k (v3q, v4q)) s.1 s.2)) (fun s => [none, some (aA v1), some (aI v2), some (aI s.1), some (aI s.2), none]) (fun s => h) (fun k s Hk H => okb_X2_spread_5 v1 v2 h (fun v3q v4q => k (v3q, v4q)) s.1 s.2  (fun v3q v4q H => Hk (v3q, v4q) H) H) FUEL (v3, v4) H
def m_X2_spread (v0 : Nat) (v1 : Nat) (v2 : Int32) (h : Hp) : Option Int32 :=
  l_X2_spread_5 v1 v2 h (0 : Int32) (0 : Int32)
set_option maxRecDepth 20000 in
theorem ok_X2_spread {r : Int32} {v0 : Nat} {v1 : Nat} {v2 : Int32} {h : Hp} (H : m_X2_spread v0 v1 v2 h = some r) : Ev M_X2_spread [aA v0, aA v1, aI v2] h (some (aI r), h) := by
  show Go M_X2_spread (some (aI r), h) 0 [some (aA v0), some (aA v1), some (aI v2), none, none, none] [] h
  unfold m_X2_spread at H
  refine go_iconst (v := (0 : Int32)) dX2_spread_0 rfl ?_
  refine go_istoren (loc2 := [some (aA v0), some (aA v1), some (aI v2), some (aI (0 : Int32)), none, none]) dX2_spread_1 rfl (by decide) rfl ?_
  refine go_iconst (v := (0 : Int32)) dX2_spread_2 rfl ?_
  refine go_istore (loc2 := [some (aA v0), some (aA v1), some (aI v2), some (aI (0 : Int32)), some (aI (0 : Int32)), none]) dX2_spread_3 (by decide) rfl ?_
  refine go_mask [false, true, true, true, true, false] (loc' := [none, some (aA v1), some (aI v2), some (aI (0 : Int32)), some (aI (0 : Int32)), none]) rfl ?_
  exact okl_X2_spread_5 v1 v2 h (0 : Int32) (0 : Int32) H
