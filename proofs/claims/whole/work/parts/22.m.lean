/-! L_law -/
def j_L_law_1254 (v1 : Nat) (v2 : Nat) (v3 : Int32)  (h : Hp) (k : Int32 → Hp → Option (Int32 × Hp)) : Option (Int32 × Hp) :=
  k (v3 + (7 : Int32)) h
set_option maxRecDepth 20000 in
theorem okj_L_law_1254 {r : (Int32 × Hp)} (v1 : Nat) (v2 : Nat) (v3 : Int32)  (h : Hp) (k : Int32 → Hp → Option (Int32 × Hp)) (Hk : ∀ (v3q : Int32) (hq : Hp), k v3q hq = some r → Go M_L_law (some (aI r.1), r.2) 18 [some (aA 1), some (aA v1), some (aA v2), some (aI v3q)] [] hq) (H : j_L_law_1254 v1 v2 v3 h k = some r) : Go M_L_law (some (aI r.1), r.2) 1254 [some (aA 1), some (aA v1), some (aA v2), some (aI v3)] [] h := by
  unfold j_L_law_1254 at H
  refine go_iinc (v := (v3 + (7 : Int32))) (loc2 := [some (aA 1), some (aA v1), some (aA v2), some (aI (v3 + (7 : Int32)))]) dL_law_1254 rfl rfl (by decide) rfl ?_
  refine go_goto (tgt := 18) dL_law_1257 (by decide) ?_
  exact Hk (v3 + (7 : Int32)) h H
def j_L_law_816 (v1 : Nat) (v2 : Nat) (v3 : Int32) (s0 : Int32) (s1 : Nat) (s2 : Int32) (s3 : Int32) (s4 : Int32) (s5 : Int32) (s6 : Int32) (s7 : Int32) (h : Hp) (k : Int32 → Hp → Option (Int32 × Hp)) : Option (Int32 × Hp) :=
  (rc h s1 12 (m_X12_spans s1 s2 s3 s4 s5 s6 s7 h)).bind fun x1 => if s0 = x1.1 then j_L_law_1254 v1 v2 v3 x1.2 k else some ((0 : Int32), x1.2)
set_option maxRecDepth 20000 in
theorem okj_L_law_816 {r : (Int32 × Hp)} (v1 : Nat) (v2 : Nat) (v3 : Int32) (s0 : Int32) (s1 : Nat) (s2 : Int32) (s3 : Int32) (s4 : Int32) (s5 : Int32) (s6 : Int32) (s7 : Int32) (h : Hp) (k : Int32 → Hp → Option (Int32 × Hp)) (Hk : ∀ (v3q : Int32) (hq : Hp), k v3q hq = some r → Go M_L_law (some (aI r.1), r.2) 18 [some (aA 1), some (aA v1), some (aA v2), some (aI v3q)] [] hq) (H : j_L_law_816 v1 v2 v3 s0 s1 s2 s3 s4 s5 s6 s7 h k = some r) : Go M_L_law (some (aI r.1), r.2) 816 [some (aA 1), some (aA v1), some (aA v2), some (aI v3)] [aI s7, aI s6, aI s5, aI s4, aI s3, aI s2, aA s1, aI s0] h := by
  unfold j_L_law_816 at H
  obtain ⟨c1, x1, ex1, H⟩ := gm_rc H
  refine go_callV (vs := [aI s2, aI s3, aI s4, aI s5, aI s6, aI s7]) (stk := [aI s0]) (o1 := (some (aI x1.1), x1.2)) mk_X12_spans sv_L_law_74 cl_X12 rfl dL_law_816 c1 rfl rfl (Nat.le_of_ble_eq_true rfl) (Nat.le_of_ble_eq_true rfl) (ok_X12_spans ex1) (show Go M_L_law (some (aI r.1), r.2) 819 [some (aA 1), some (aA v1), some (aA v2), some (aI v3)] [aI x1.1, aI s0] x1.2 from ?_)
  refine go_icmp_eq (tgt := 1254) dL_law_819 (by decide) (fun c2 => ?_) (fun c2 => ?_)
  · replace H := (gm_ite H).1 c2
    exact okj_L_law_1254 v1 v2 v3 x1.2 k Hk H
  · replace H := (gm_ite H).2 c2
    refine go_iconst (v := (0 : Int32)) dL_law_822 rfl ?_
    obtain rfl := Option.some.inj H
    exact go_ireturn (x := (0 : Int32)) dL_law_823 (tyI_bool rfl (by decide))
def j_L_law_773 (v1 : Nat) (v2 : Nat) (v3 : Int32) (s0 : Nat) (s1 : Int32) (s2 : Int32) (s3 : Int32) (s4 : Int32) (s5 : Int32) (s6 : Int32) (h : Hp) (k : Int32 → Hp → Option (Int32 × Hp)) : Option (Int32 × Hp) :=
  (rc h s0 11 (m_X11_spans s0 s1 s2 s3 s4 s5 s6 h)).bind fun x1 => (alX x1.2 (v3 + (1 : Int32))).bind fun x2 => (alX x1.2 (v3 + (2 : Int32))).bind fun x3 => (alX x1.2 (v3 + (3 : Int32))).bind fun x4 => (alX x1.2 (v3 + (4 : Int32))).bind fun x5 => (alX x1.2 (v3 + (5 : Int32))).bind fun x6 => (alX x1.2 (v3 + (6 : Int32))).bind fun x7 => if x7 = 0 then (j_L_law_816 v1 v2 v3 x1.1 v2 x2 x3 x4 x5 x6 (0 : Int32) x1.2 k) else j_L_law_816 v1 v2 v3 x1.1 v2 x2 x3 x4 x5 x6 (1 : Int32) x1.2 k
set_option maxRecDepth 20000 in
theorem okj_L_law_773 {r : (Int32 × Hp)} (v1 : Nat) (v2 : Nat) (v3 : Int32) (s0 : Nat) (s1 : Int32) (s2 : Int32) (s3 : Int32) (s4 : Int32) (s5 : Int32) (s6 : Int32) (h : Hp) (k : Int32 → Hp → Option (Int32 × Hp)) (Hk : ∀ (v3q : Int32) (hq : Hp), k v3q hq = some r → Go M_L_law (some (aI r.1), r.2) 18 [some (aA 1), some (aA v1), some (aA v2), some (aI v3q)] [] hq) (H : j_L_law_773 v1 v2 v3 s0 s1 s2 s3 s4 s5 s6 h k = some r) : Go M_L_law (some (aI r.1), r.2) 773 [some (aA 1), some (aA v1), some (aA v2), some (aI v3)] [aI s6, aI s5, aI s4, aI s3, aI s2, aI s1, aA s0] h := by
  unfold j_L_law_773 at H
  obtain ⟨c1, x1, ex1, H⟩ := gm_rc H
  refine go_callV (vs := [aI s1, aI s2, aI s3, aI s4, aI s5, aI s6]) (stk := []) (o1 := (some (aI x1.1), x1.2)) mk_X11_spans sv_L_law_70 cl_X11 rfl dL_law_773 c1 rfl rfl (Nat.le_of_ble_eq_true rfl) (Nat.le_of_ble_eq_true rfl) (ok_X11_spans ex1) (show Go M_L_law (some (aI r.1), r.2) 776 [some (aA 1), some (aA v1), some (aA v2), some (aI v3)] [aI x1.1] x1.2 from ?_)
  refine go_aloadn dL_law_776 rfl ?_
  refine go_aloadn dL_law_777 rfl ?_
  refine go_iloadn dL_law_778 rfl ?_
  refine go_iconst (v := (1 : Int32)) dL_law_779 rfl ?_
  refine go_iadd dL_law_780 ?_
  refine gm_xald dL_law_781 H (fun x2 H => ?_)
  refine go_aloadn dL_law_782 rfl ?_
  refine go_iloadn dL_law_783 rfl ?_
  refine go_iconst (v := (2 : Int32)) dL_law_784 rfl ?_
  refine go_iadd dL_law_785 ?_
  refine gm_xald dL_law_786 H (fun x3 H => ?_)
  refine go_aloadn dL_law_787 rfl ?_
  refine go_iloadn dL_law_788 rfl ?_
  refine go_iconst (v := (3 : Int32)) dL_law_789 rfl ?_
  refine go_iadd dL_law_790 ?_
  refine gm_xald dL_law_791 H (fun x4 H => ?_)
  refine go_aloadn dL_law_792 rfl ?_
  refine go_iloadn dL_law_793 rfl ?_
  refine go_iconst (v := (4 : Int32)) dL_law_794 rfl ?_
  refine go_iadd dL_law_795 ?_
  refine gm_xald dL_law_796 H (fun x5 H => ?_)
  refine go_aloadn dL_law_797 rfl ?_
  refine go_iloadn dL_law_798 rfl ?_
  refine go_iconst (v := (5 : Int32)) dL_law_799 rfl ?_
  refine go_iadd dL_law_800 ?_
  refine gm_xald dL_law_801 H (fun x6 H => ?_)
  refine go_aloadn dL_law_802 rfl ?_
  refine go_iloadn dL_law_803 rfl ?_
  refine go_bipush (v := (6 : Int32)) dL_law_804 rfl ?_
  refine go_iadd dL_law_806 ?_
  refine gm_xald dL_law_807 H (fun x7 H => ?_)
  refine go_if_eq (tgt := 815) dL_law_808 (by decide) (fun c2 => ?_) (fun c2 => ?_)
  · replace H := (gm_ite H).1 c2
    refine go_iconst (v := (0 : Int32)) dL_law_815 rfl ?_
    exact okj_L_law_816 v1 v2 v3 x1.1 v2 x2 x3 x4 x5 x6 (0 : Int32) x1.2 k Hk H
  · replace H := (gm_ite H).2 c2
    refine go_iconst (v := (1 : Int32)) dL_law_811 rfl ?_
    refine go_goto (tgt := 816) dL_law_812 (by decide) ?_
    exact okj_L_law_816 v1 v2 v3 x1.1 v2 x2 x3 x4 x5 x6 (1 : Int32) x1.2 k Hk H
def b_L_law_18 (v1 : Nat) (v2 : Nat) (k : Int32 → Hp → Option (Int32 × Hp)) (v3 : Int32) (h : Hp) : Option (Int32 × Hp) :=
  if ((Int32.ofNat (hLen h 1)) - (7 : Int32)) < v3 then (some ((1 : Int32), h)) else (alX h v3).bind fun x1 => if (x1 &&& (31 : Int32)) = (0 : Int32) then ((alX h (v3 + (1 : Int32))).bind fun x2 => (alX h (v3 + (2 : Int32))).bind fun x3 => (alX h (v3 + (3 : Int32))).bind fun x4 => (alX h (v3 + (4 : Int32))).bind fun x5 => (alX h (v3 + (5 : Int32))).bind fun x6 => (rc h v1 11 (m_X11_feed v1 x2 x3 x4 x5 x6 h)).bind fun x7 => (alX x7.2 (v3 + (1 : Int32))).bind fun x8 => (alX x7.2 (v3 + (2 : Int32))).bind fun x9 => (alX x7.2 (v3 + (3 : Int32))).bind fun x10 => (alX x7.2 (v3 + (4 : Int32))).bind fun x11 => (alX x7.2 (v3 + (5 : Int32))).bind fun x12 => (rc x7.2 v2 12 (m_X12_feed v2 x8 x9 x10 x11 x12 x7.2)).bind fun x13 => if x7.1 = x13.1 then j_L_law_1254 v1 v2 v3 x13.2 k else some ((0 : Int32), x13.2)) else if (x1 &&& (31 : Int32)) = (1 : Int32) then ((alX h (v3 + (1 : Int32))).bind fun x14 => (rc h v1 11 (m_X11_end v1 x14 h)).bind fun x15 => (alX x15.2 (v3 + (1 : Int32))).bind fun x16 => (rc x15.2 v2 12 (m_X12_end v2 x16 x15.2)).bind fun x17 => if x15.1 = x17.1 then j_L_law_1254 v1 v2 v3 x17.2 k else some ((0 : Int32), x17.2)) else if (x1 &&& (31 : Int32)) = (2 : Int32) then ((alX h (v3 + (1 : Int32))).bind fun x18 => (alX h (v3 + (2 : Int32))).bind fun x19 => (rc h v1 11 (m_X11_text v1 x18 x19 h)).bind fun x20 => (alX x20.2 (v3 + (1 : Int32))).bind fun x21 => (alX x20.2 (v3 + (2 : Int32))).bind fun x22 => (rc x20.2 v2 12 (m_X12_text v2 x21 x22 x20.2)).bind fun x23 => if x20.1 = x23.1 then j_L_law_1254 v1 v2 v3 x23.2 k else some ((0 : Int32), x23.2)) else if (x1 &&& (31 : Int32)) = (3 : Int32) then ((alX h (v3 + (1 : Int32))).bind fun x24 => (rc h v1 11 (m_X11_fault v1 x24 h)).bind fun x25 => (alX h (v3 + (1 : Int32))).bind fun x26 => (rc h v2 12 (m_X12_fault v2 x26 h)).bind fun x27 => if x25 = x27.1 then j_L_law_1254 v1 v2 v3 x27.2 k else some ((0 : Int32), x27.2)) else if (x1 &&& (31 : Int32)) = (4 : Int32) then ((alX h (v3 + (1 : Int32))).bind fun x28 => (alX h (v3 + (2 : Int32))).bind fun x29 => (rc h v1 11 (m_X11_archive v1 x28 x29 h)).bind fun x30 => (alX h (v3 + (1 : Int32))).bind fun x31 => (alX h (v3 + (2 : Int32))).bind fun x32 => (rc h v2 12 (m_X12_archive v2 x31 x32 h)).bind fun x33 => if x30 = x33.1 then j_L_law_1254 v1 v2 v3 x33.2 k else some ((0 : Int32), x33.2)) else if (x1 &&& (31 : Int32)) = (5 : Int32) then ((alX h (v3 + (1 : Int32))).bind fun x34 => (alX h (v3 + (2 : Int32))).bind fun x35 => (alX h (v3 + (3 : Int32))).bind fun x36 => (alX h (v3 + (4 : Int32))).bind fun x37 => (rc h v1 11 (m_X11_version v1 x34 x35 x36 x37 h)).bind fun x38 => (alX h (v3 + (1 : Int32))).bind fun x39 => (alX h (v3 + (2 : Int32))).bind fun x40 => (alX h (v3 + (3 : Int32))).bind fun x41 => (alX h (v3 + (4 : Int32))).bind fun x42 => (rc h v2 12 (m_X12_version v2 x39 x40 x41 x42 h)).bind fun x43 => if x38 = x43.1 then j_L_law_1254 v1 v2 v3 x43.2 k else some ((0 : Int32), x43.2)) else if (x1 &&& (31 : Int32)) = (6 : Int32) then ((alX h (v3 + (1 : Int32))).bind fun x44 => (alX h (v3 + (2 : Int32))).bind fun x45 => (alX h (v3 + (3 : Int32))).bind fun x46 => (alX h (v3 + (4 : Int32))).bind fun x47 => (alX h (v3 + (5 : Int32))).bind fun x48 => (rc h v1 11 (m_X11_life v1 x44 x45 x46 x47 x48 h)).bind fun x49 => (alX h (v3 + (1 : Int32))).bind fun x50 => (alX h (v3 + (2 : Int32))).bind fun x51 => (alX h (v3 + (3 : Int32))).bind fun x52 => (alX h (v3 + (4 : Int32))).bind fun x53 => (alX h (v3 + (5 : Int32))).bind fun x54 => (rc h v2 12 (m_X12_life v2 x50 x51 x52 x53 x54 h)).bind fun x55 => if x49 = x55.1 then j_L_law_1254 v1 v2 v3 x55.2 k else some ((0 : Int32), x55.2)) else if (x1 &&& (31 : Int32)) = (7 : Int32) then ((alX h (v3 + (1 : Int32))).bind fun x56 => (alX h (v3 + (2 : Int32))).bind fun x57 => (alX h (v3 + (3 : Int32))).bind fun x58 => (rc h v1 11 (m_X11_word v1 x56 x57 x58 h)).bind fun x59 => (alX h (v3 + (1 : Int32))).bind fun x60 => (alX h (v3 + (2 : Int32))).bind fun x61 => (alX h (v3 + (3 : Int32))).bind fun x62 => (rc h v2 12 (m_X12_word v2 x60 x61 x62 h)).bind fun x63 => if x59 = x63.1 then j_L_law_1254 v1 v2 v3 x63.2 k else some ((0 : Int32), x63.2)) else if (x1 &&& (31 : Int32)) = (8 : Int32) then ((alX h (v3 + (1 : Int32))).bind fun x64 => (alX h (v3 + (2 : Int32))).bind fun x65 => (rc h v1 11 (m_X11_dated v1 x64 x65 h)).bind fun x66 => (alX h (v3 + (1 : Int32))).bind fun x67 => (alX h (v3 + (2 : Int32))).bind fun x68 => (rc h v2 12 (m_X12_dated v2 x67 x68 h)).bind fun x69 => if x66 = x69.1 then j_L_law_1254 v1 v2 v3 x69.2 k else some ((0 : Int32), x69.2)) else if (x1 &&& (31 : Int32)) = (9 : Int32) then ((alX h (v3 + (1 : Int32))).bind fun x70 => (alX h (v3 + (2 : Int32))).bind fun x71 => (alX h (v3 + (3 : Int32))).bind fun x72 => (alX h (v3 + (4 : Int32))).bind fun x73 => (rc h v1 11 (m_X11_shared v1 x70 x71 x72 x73 h)).bind fun x74 => (alX h (v3 + (1 : Int32))).bind fun x75 => (alX h (v3 + (2 : Int32))).bind fun x76 => (alX h (v3 + (3 : Int32))).bind fun x77 => (alX h (v3 + (4 : Int32))).bind fun x78 => (rc h v2 12 (m_X12_shared v2 x75 x76 x77 x78 h)).bind fun x79 => if x74 = x79.1 then j_L_law_1254 v1 v2 v3 x79.2 k else some ((0 : Int32), x79.2)) else if (x1 &&& (31 : Int32)) = (10 : Int32) then ((alX h (v3 + (1 : Int32))).bind fun x80 => (alX h (v3 + (2 : Int32))).bind fun x81 => (alX h (v3 + (3 : Int32))).bind fun x82 => (alX h (v3 + (4 : Int32))).bind fun x83 => (alX h (v3 + (5 : Int32))).bind fun x84 => (rc h v1 11 (m_X11_common v1 x80 x81 x82 x83 x84 h)).bind fun x85 => (alX x85.2 (v3 + (1 : Int32))).bind fun x86 => (alX x85.2 (v3 + (2 : Int32))).bind fun x87 => (alX x85.2 (v3 + (3 : Int32))).bind fun x88 => (alX x85.2 (v3 + (4 : Int32))).bind fun x89 => (alX x85.2 (v3 + (5 : Int32))).bind fun x90 => (rc x85.2 v2 12 (m_X12_common v2 x86 x87 x88 x89 x90 x85.2)).bind fun x91 => if x85.1 = x91.1 then j_L_law_1254 v1 v2 v3 x91.2 k else some ((0 : Int32), x91.2)) else if (x1 &&& (31 : Int32)) = (11 : Int32) then ((alX h (v3 + (1 : Int32))).bind fun x92 => (alX h (v3 + (2 : Int32))).bind fun x93 => (alX h (v3 + (3 : Int32))).bind fun x94 => (rc h v1 11 (m_X11_question v1 x92 x93 x94 h)).bind fun x95 => (alX h (v3 + (1 : Int32))).bind fun x96 => (alX h (v3 + (2 : Int32))).bind fun x97 => (alX h (v3 + (3 : Int32))).bind fun x98 => (rc h v2 12 (m_X12_question v2 x96 x97 x98 h)).bind fun x99 => if x95 = x99.1 then j_L_law_1254 v1 v2 v3 x99.2 k else some ((0 : Int32), x99.2)) else if (x1 &&& (31 : Int32)) = (12 : Int32) then ((alX h (v3 + (1 : Int32))).bind fun x100 => (alX h (v3 + (2 : Int32))).bind fun x101 => (alX h (v3 + (3 : Int32))).bind fun x102 => (alX h (v3 + (4 : Int32))).bind fun x103 => (alX h (v3 + (5 : Int32))).bind fun x104 => (rc h v1 11 (m_X11_holds v1 x100 x101 x102 x103 x104 h)).bind fun x105 => (alX x105.2 (v3 + (1 : Int32))).bind fun x106 => (alX x105.2 (v3 + (2 : Int32))).bind fun x107 => (alX x105.2 (v3 + (3 : Int32))).bind fun x108 => (alX x105.2 (v3 + (4 : Int32))).bind fun x109 => (alX x105.2 (v3 + (5 : Int32))).bind fun x110 => (rc x105.2 v2 12 (m_X12_holds v2 x106 x107 x108 x109 x110 x105.2)).bind fun x111 => if x105.1 = x111.1 then j_L_law_1254 v1 v2 v3 x111.2 k else some ((0 : Int32), x111.2)) else if (x1 &&& (31 : Int32)) = (13 : Int32) then ((alX h (v3 + (1 : Int32))).bind fun x112 => (alX h (v3 + (2 : Int32))).bind fun x113 => (alX h (v3 + (3 : Int32))).bind fun x114 => (alX h (v3 + (4 : Int32))).bind fun x115 => (alX h (v3 + (5 : Int32))).bind fun x116 => (alX h (v3 + (6 : Int32))).bind fun x117 => if x117 = 0 then (j_L_law_773 v1 v2 v3 v1 x112 x113 x114 x115 x116 (0 : Int32) h k) else j_L_law_773 v1 v2 v3 v1 x112 x113 x114 x115 x116 (1 : Int32) h k) else if (x1 &&& (31 : Int32)) = (14 : Int32) then ((alX h (v3 + (1 : Int32))).bind fun x118 => (alX h (v3 + (2 : Int32))).bind fun x119 => (alX h (v3 + (3 : Int32))).bind fun x120 => (alX h (v3 + (4 : Int32))).bind fun x121 => (alX h (v3 + (5 : Int32))).bind fun x122 => (rc h v1 11 (m_X11_times v1 x118 x119 x120 x121 x122 h)).bind fun x123 => (alX h (v3 + (1 : Int32))).bind fun x124 => (alX h (v3 + (2 : Int32))).bind fun x125 => (alX h (v3 + (3 : Int32))).bind fun x126 => (alX h (v3 + (4 : Int32))).bind fun x127 => (alX h (v3 + (5 : Int32))).bind fun x128 => (rc h v2 12 (m_X12_times v2 x124 x125 x126 x127 x128 h)).bind fun x129 => if x123 = x129.1 then j_L_law_1254 v1 v2 v3 x129.2 k else some ((0 : Int32), x129.2)) else if (x1 &&& (31 : Int32)) = (15 : Int32) then ((alX h (v3 + (1 : Int32))).bind fun x130 => (alX h (v3 + (2 : Int32))).bind fun x131 => (alX h (v3 + (3 : Int32))).bind fun x132 => (alX h (v3 + (4 : Int32))).bind fun x133 => (rc h v1 11 (m_X11_found v1 x130 x131 x132 x133 h)).bind fun x134 => (alX x134.2 (v3 + (1 : Int32))).bind fun x135 => (alX x134.2 (v3 + (2 : Int32))).bind fun x136 => (alX x134.2 (v3 + (3 : Int32))).bind fun x137 => (alX x134.2 (v3 + (4 : Int32))).bind fun x138 => (rc x134.2 v2 12 (m_X12_found v2 x135 x136 x137 x138 x134.2)).bind fun x139 => if x134.1 = x139.1 then j_L_law_1254 v1 v2 v3 x139.2 k else some ((0 : Int32), x139.2)) else if (x1 &&& (31 : Int32)) = (16 : Int32) then ((alX h (v3 + (1 : Int32))).bind fun x140 => (alX h (v3 + (2 : Int32))).bind fun x141 => (alX h (v3 + (3 : Int32))).bind fun x142 => (rc h v1 11 (m_X11_best v1 x140 x141 x142 h)).bind fun x143 => (alX x143.2 (v3 + (1 : Int32))).bind fun x144 => (alX x143.2 (v3 + (2 : Int32))).bind fun x145 => (alX x143.2 (v3 + (3 : Int32))).bind fun x146 => (rc x143.2 v2 12 (m_X12_best v2 x144 x145 x146 x143.2)).bind fun x147 => if x143.1 = x147.1 then j_L_law_1254 v1 v2 v3 x147.2 k else some ((0 : Int32), x147.2)) else if (x1 &&& (31 : Int32)) = (17 : Int32) then ((alX h (v3 + (1 : Int32))).bind fun x148 => (alX h (v3 + (2 : Int32))).bind fun x149 => (alX h (v3 + (3 : Int32))).bind fun x150 => (alX h (v3 + (4 : Int32))).bind fun x151 => (rc h v1 11 (m_X11_implies v1 x148 x149 x150 x151 h)).bind fun x152 => (alX x152.2 (v3 + (1 : Int32))).bind fun x153 => (alX x152.2 (v3 + (2 : Int32))).bind fun x154 => (alX x152.2 (v3 + (3 : Int32))).bind fun x155 => (alX x152.2 (v3 + (4 : Int32))).bind fun x156 => (rc x152.2 v2 12 (m_X12_implies v2 x153 x154 x155 x156 x152.2)).bind fun x157 => if x152.1 = x157.1 then j_L_law_1254 v1 v2 v3 x157.2 k else some ((0 : Int32), x157.2)) else if (x1 &&& (31 : Int32)) = (18 : Int32) then ((alX h (v3 + (1 : Int32))).bind fun x158 => (alX h (v3 + (2 : Int32))).bind fun x159 => (alX h (v3 + (3 : Int32))).bind fun x160 => (rc h v1 11 (m_X11_fact v1 x158 x159 x160 h)).bind fun x161 => (alX h (v3 + (1 : Int32))).bind fun x162 => (alX h (v3 + (2 : Int32))).bind fun x163 => (alX h (v3 + (3 : Int32))).bind fun x164 => (rc h v2 12 (m_X12_fact v2 x162 x163 x164 h)).bind fun x165 => if x161 = x165.1 then j_L_law_1254 v1 v2 v3 x165.2 k else some ((0 : Int32), x165.2)) else if (x1 &&& (31 : Int32)) = (19 : Int32) then ((alX h (v3 + (1 : Int32))).bind fun x166 => (alX h (v3 + (2 : Int32))).bind fun x167 => (alX h (v3 + (3 : Int32))).bind fun x168 => (rc h v1 11 (m_X11_fits v1 x166 x167 x168 h)).bind fun x169 => (alX h (v3 + (1 : Int32))).bind fun x170 => (alX h (v3 + (2 : Int32))).bind fun x171 => (alX h (v3 + (3 : Int32))).bind fun x172 => (rc h v2 12 (m_X12_fits v2 x170 x171 x172 h)).bind fun x173 => if x169 = x173.1 then j_L_law_1254 v1 v2 v3 x173.2 k else some ((0 : Int32), x173.2)) else if (x1 &&& (31 : Int32)) = (20 : Int32) then ((alX h (v3 + (1 : Int32))).bind fun x174 => (alX h (v3 + (2 : Int32))).bind fun x175 => (alX h (v3 + (3 : Int32))).bind fun x176 => (alX h (v3 + (4 : Int32))).bind fun x177 => (alX h (v3 + (5 : Int32))).bind fun x178 => (rc h v1 11 (m_X11_drawn v1 x174 x175 x176 x177 x178 h)).bind fun x179 => (alX x179.2 (v3 + (1 : Int32))).bind fun x180 => (alX x179.2 (v3 + (2 : Int32))).bind fun x181 => (alX x179.2 (v3 + (3 : Int32))).bind fun x182 => (alX x179.2 (v3 + (4 : Int32))).bind fun x183 => (alX x179.2 (v3 + (5 : Int32))).bind fun x184 => (rc x179.2 v2 12 (m_X12_drawn v2 x180 x181 x182 x183 x184 x179.2)).bind fun x185 => if x179.1 = x185.1 then j_L_law_1254 v1 v2 v3 x185.2 k else some ((0 : Int32), x185.2)) else if (x1 &&& (31 : Int32)) = (21 : Int32) then ((alX h (v3 + (1 : Int32))).bind fun x186 => (rc h v1 11 (m_X11_count v1 x186 h)).bind fun x187 => (alX h (v3 + (1 : Int32))).bind fun x188 => (rc h v2 12 (m_X12_count v2 x188 h)).bind fun x189 => if x187 = x189.1 then j_L_law_1254 v1 v2 v3 x189.2 k else some ((0 : Int32), x189.2)) else if (x1 &&& (31 : Int32)) = (22 : Int32) then ((alX h (v3 + (1 : Int32))).bind fun x190 => (rc h v1 11 (m_X11_image v1 x190 h)).bind fun x191 => (alX x191.2 (v3 + (1 : Int32))).bind fun x192 => (rc x191.2 v2 12 (m_X12_image v2 x192 x191.2)).bind fun x193 => if x191.1 = x193.1 then j_L_law_1254 v1 v2 v3 x193.2 k else some ((0 : Int32), x193.2)) else if (x1 &&& (31 : Int32)) = (23 : Int32) then ((alX h (v3 + (1 : Int32))).bind fun x194 => (rc h v1 11 (m_X11_again v1 x194 h)).bind fun x195 => (alX x195.2 (v3 + (1 : Int32))).bind fun x196 => (rc x195.2 v2 12 (m_X12_again v2 x196 x195.2)).bind fun x197 => if x195.1 = x197.1 then j_L_law_1254 v1 v2 v3 x197.2 k else some ((0 : Int32), x197.2)) else j_L_law_1254 v1 v2 v3 h k
set_option maxRecDepth 20000 in
theorem okb_L_law_18 {r : (Int32 × Hp)} (v1 : Nat) (v2 : Nat) (k : Int32 → Hp → Option (Int32 × Hp)) (v3 : Int32) (h : Hp) (Hk : ∀ (v3q : Int32) (hq : Hp), k v3q hq = some r → Go M_L_law (some (aI r.1), r.2) 18 [some (aA 1), some (aA v1), some (aA v2), some (aI v3q)] [] hq) (H : b_L_law_18 v1 v2 k v3 h = some r) : Go M_L_law (some (aI r.1), r.2) 18 [some (aA 1), some (aA v1), some (aA v2), some (aI v3)] [] h := by
  unfold b_L_law_18 at H
  refine go_iloadn dL_law_18 rfl ?_
  refine go_aloadn dL_law_19 rfl ?_
  refine go_xlen dL_law_20 ?_
  refine go_bipush (v := (7 : Int32)) dL_law_21 rfl ?_
  refine go_isub dL_law_23 ?_
  refine go_icmp_gt (tgt := 1260) dL_law_24 (by decide) (fun c1 => ?_) (fun c1 => ?_)
  · replace H := (gm_ite H).1 c1
    refine go_iconst (v := (1 : Int32)) dL_law_1260 rfl ?_
    obtain rfl := Option.some.inj H
    exact go_ireturn (x := (1 : Int32)) dL_law_1261 (tyI_bool rfl (by decide))
  · replace H := (gm_ite H).2 c1
    refine go_aloadn dL_law_27 rfl ?_
    refine go_iloadn dL_law_28 rfl ?_
    refine gm_xald dL_law_29 H (fun x1 H => ?_)
    refine go_bipush (v := (31 : Int32)) dL_law_30 rfl ?_
    refine go_iand dL_law_32 ?_
    by_cases c2 : (x1 &&& (31 : Int32)) = (0 : Int32)
    · replace H := (gm_ite H).1 c2
      refine go_eqI c2 ?_
      refine go_tableIn (tgt := 144) dL_law_33 (by decide) (by decide) rfl (by decide) ?_
      refine go_aloadn dL_law_144 rfl ?_
      refine go_aloadn dL_law_145 rfl ?_
      refine go_iloadn dL_law_146 rfl ?_
      refine go_iconst (v := (1 : Int32)) dL_law_147 rfl ?_
      refine go_iadd dL_law_148 ?_
      refine gm_xald dL_law_149 H (fun x2 H => ?_)
      refine go_aloadn dL_law_150 rfl ?_
      refine go_iloadn dL_law_151 rfl ?_
      refine go_iconst (v := (2 : Int32)) dL_law_152 rfl ?_
      refine go_iadd dL_law_153 ?_
      refine gm_xald dL_law_154 H (fun x3 H => ?_)
      refine go_aloadn dL_law_155 rfl ?_
      refine go_iloadn dL_law_156 rfl ?_
      refine go_iconst (v := (3 : Int32)) dL_law_157 rfl ?_
      refine go_iadd dL_law_158 ?_
      refine gm_xald dL_law_159 H (fun x4 H => ?_)
      refine go_aloadn dL_law_160 rfl ?_
      refine go_iloadn dL_law_161 rfl ?_
      refine go_iconst (v := (4 : Int32)) dL_law_162 rfl ?_
      refine go_iadd dL_law_163 ?_
      refine gm_xald dL_law_164 H (fun x5 H => ?_)
      refine go_aloadn dL_law_165 rfl ?_
      refine go_iloadn dL_law_166 rfl ?_
      refine go_iconst (v := (5 : Int32)) dL_law_167 rfl ?_
      refine go_iadd dL_law_168 ?_
      refine gm_xald dL_law_169 H (fun x6 H => ?_)
      obtain ⟨c3, x7, ex7, H⟩ := gm_rc H
      refine go_callV (vs := [aI x2, aI x3, aI x4, aI x5, aI x6]) (stk := []) (o1 := (some (aI x7.1), x7.2)) mk_X11_feed sv_L_law_13 cl_X11 rfl dL_law_170 c3 rfl rfl (Nat.le_of_ble_eq_true rfl) (Nat.le_of_ble_eq_true rfl) (ok_X11_feed ex7) (show Go M_L_law (some (aI r.1), r.2) 173 [some (aA 1), some (aA v1), some (aA v2), some (aI v3)] [aI x7.1] x7.2 from ?_)
      refine go_aloadn dL_law_173 rfl ?_
      refine go_aloadn dL_law_174 rfl ?_
      refine go_iloadn dL_law_175 rfl ?_
      refine go_iconst (v := (1 : Int32)) dL_law_176 rfl ?_
      refine go_iadd dL_law_177 ?_
      refine gm_xald dL_law_178 H (fun x8 H => ?_)
      refine go_aloadn dL_law_179 rfl ?_
      refine go_iloadn dL_law_180 rfl ?_
      refine go_iconst (v := (2 : Int32)) dL_law_181 rfl ?_
      refine go_iadd dL_law_182 ?_
      refine gm_xald dL_law_183 H (fun x9 H => ?_)
      refine go_aloadn dL_law_184 rfl ?_
      refine go_iloadn dL_law_185 rfl ?_
      refine go_iconst (v := (3 : Int32)) dL_law_186 rfl ?_
      refine go_iadd dL_law_187 ?_
      refine gm_xald dL_law_188 H (fun x10 H => ?_)
      refine go_aloadn dL_law_189 rfl ?_
      refine go_iloadn dL_law_190 rfl ?_
      refine go_iconst (v := (4 : Int32)) dL_law_191 rfl ?_
      refine go_iadd dL_law_192 ?_
      refine gm_xald dL_law_193 H (fun x11 H => ?_)
      refine go_aloadn dL_law_194 rfl ?_
      refine go_iloadn dL_law_195 rfl ?_
      refine go_iconst (v := (5 : Int32)) dL_law_196 rfl ?_
      refine go_iadd dL_law_197 ?_
      refine gm_xald dL_law_198 H (fun x12 H => ?_)
      obtain ⟨c4, x13, ex13, H⟩ := gm_rc H
      refine go_callV (vs := [aI x8, aI x9, aI x10, aI x11, aI x12]) (stk := [aI x7.1]) (o1 := (some (aI x13.1), x13.2)) mk_X12_feed sv_L_law_17 cl_X12 rfl dL_law_199 c4 rfl rfl (Nat.le_of_ble_eq_true rfl) (Nat.le_of_ble_eq_true rfl) (ok_X12_feed ex13) (show Go M_L_law (some (aI r.1), r.2) 202 [some (aA 1), some (aA v1), some (aA v2), some (aI v3)] [aI x13.1, aI x7.1] x13.2 from ?_)
      refine go_icmp_eq (tgt := 1254) dL_law_202 (by decide) (fun c5 => ?_) (fun c5 => ?_)
      · replace H := (gm_ite H).1 c5
        exact okj_L_law_1254 v1 v2 v3 x13.2 k Hk H
      · replace H := (gm_ite H).2 c5
        refine go_iconst (v := (0 : Int32)) dL_law_205 rfl ?_
        obtain rfl := Option.some.inj H
        exact go_ireturn (x := (0 : Int32)) dL_law_206 (tyI_bool rfl (by decide))
    · replace H := (gm_ite H).2 c2
      by_cases c6 : (x1 &&& (31 : Int32)) = (1 : Int32)
      · replace H := (gm_ite H).1 c6
        refine go_eqI c6 ?_
        refine go_tableIn (tgt := 207) dL_law_33 (by decide) (by decide) rfl (by decide) ?_
        refine go_aloadn dL_law_207 rfl ?_
        refine go_aloadn dL_law_208 rfl ?_
        refine go_iloadn dL_law_209 rfl ?_
        refine go_iconst (v := (1 : Int32)) dL_law_210 rfl ?_
        refine go_iadd dL_law_211 ?_
        refine gm_xald dL_law_212 H (fun x14 H => ?_)
        obtain ⟨c7, x15, ex15, H⟩ := gm_rc H
        refine go_callV (vs := [aI x14]) (stk := []) (o1 := (some (aI x15.1), x15.2)) mk_X11_end sv_L_law_18 cl_X11 rfl dL_law_213 c7 rfl rfl (Nat.le_of_ble_eq_true rfl) (Nat.le_of_ble_eq_true rfl) (ok_X11_end ex15) (show Go M_L_law (some (aI r.1), r.2) 216 [some (aA 1), some (aA v1), some (aA v2), some (aI v3)] [aI x15.1] x15.2 from ?_)
        refine go_aloadn dL_law_216 rfl ?_
        refine go_aloadn dL_law_217 rfl ?_
        refine go_iloadn dL_law_218 rfl ?_
        refine go_iconst (v := (1 : Int32)) dL_law_219 rfl ?_
        refine go_iadd dL_law_220 ?_
        refine gm_xald dL_law_221 H (fun x16 H => ?_)
        obtain ⟨c8, x17, ex17, H⟩ := gm_rc H
        refine go_callV (vs := [aI x16]) (stk := [aI x15.1]) (o1 := (some (aI x17.1), x17.2)) mk_X12_end sv_L_law_22 cl_X12 rfl dL_law_222 c8 rfl rfl (Nat.le_of_ble_eq_true rfl) (Nat.le_of_ble_eq_true rfl) (ok_X12_end ex17) (show Go M_L_law (some (aI r.1), r.2) 225 [some (aA 1), some (aA v1), some (aA v2), some (aI v3)] [aI x17.1, aI x15.1] x17.2 from ?_)
        refine go_icmp_eq (tgt := 1254) dL_law_225 (by decide) (fun c9 => ?_) (fun c9 => ?_)
        · replace H := (gm_ite H).1 c9
          exact okj_L_law_1254 v1 v2 v3 x17.2 k Hk H
        · replace H := (gm_ite H).2 c9
          refine go_iconst (v := (0 : Int32)) dL_law_228 rfl ?_
          obtain rfl := Option.some.inj H
          exact go_ireturn (x := (0 : Int32)) dL_law_229 (tyI_bool rfl (by decide))
      · replace H := (gm_ite H).2 c6
        by_cases c10 : (x1 &&& (31 : Int32)) = (2 : Int32)
        · replace H := (gm_ite H).1 c10
          refine go_eqI c10 ?_
          refine go_tableIn (tgt := 230) dL_law_33 (by decide) (by decide) rfl (by decide) ?_
          refine go_aloadn dL_law_230 rfl ?_
          refine go_aloadn dL_law_231 rfl ?_
          refine go_iloadn dL_law_232 rfl ?_
          refine go_iconst (v := (1 : Int32)) dL_law_233 rfl ?_
          refine go_iadd dL_law_234 ?_
          refine gm_xald dL_law_235 H (fun x18 H => ?_)
          refine go_aloadn dL_law_236 rfl ?_
          refine go_iloadn dL_law_237 rfl ?_
          refine go_iconst (v := (2 : Int32)) dL_law_238 rfl ?_
          refine go_iadd dL_law_239 ?_
          refine gm_xald dL_law_240 H (fun x19 H => ?_)
          obtain ⟨c11, x20, ex20, H⟩ := gm_rc H
          refine go_callV (vs := [aI x18, aI x19]) (stk := []) (o1 := (some (aI x20.1), x20.2)) mk_X11_text sv_L_law_23 cl_X11 rfl dL_law_241 c11 rfl rfl (Nat.le_of_ble_eq_true rfl) (Nat.le_of_ble_eq_true rfl) (ok_X11_text ex20) (show Go M_L_law (some (aI r.1), r.2) 244 [some (aA 1), some (aA v1), some (aA v2), some (aI v3)] [aI x20.1] x20.2 from ?_)
          refine go_aloadn dL_law_244 rfl ?_
          refine go_aloadn dL_law_245 rfl ?_
          refine go_iloadn dL_law_246 rfl ?_
          refine go_iconst (v := (1 : Int32)) dL_law_247 rfl ?_
          refine go_iadd dL_law_248 ?_
          refine gm_xald dL_law_249 H (fun x21 H => ?_)
          refine go_aloadn dL_law_250 rfl ?_
          refine go_iloadn dL_law_251 rfl ?_
          refine go_iconst (v := (2 : Int32)) dL_law_252 rfl ?_
          refine go_iadd dL_law_253 ?_
          refine gm_xald dL_law_254 H (fun x22 H => ?_)
          obtain ⟨c12, x23, ex23, H⟩ := gm_rc H
          refine go_callV (vs := [aI x21, aI x22]) (stk := [aI x20.1]) (o1 := (some (aI x23.1), x23.2)) mk_X12_text sv_L_law_27 cl_X12 rfl dL_law_255 c12 rfl rfl (Nat.le_of_ble_eq_true rfl) (Nat.le_of_ble_eq_true rfl) (ok_X12_text ex23) (show Go M_L_law (some (aI r.1), r.2) 258 [some (aA 1), some (aA v1), some (aA v2), some (aI v3)] [aI x23.1, aI x20.1] x23.2 from ?_)
          refine go_icmp_eq (tgt := 1254) dL_law_258 (by decide) (fun c13 => ?_) (fun c13 => ?_)
          · replace H := (gm_ite H).1 c13
            exact okj_L_law_1254 v1 v2 v3 x23.2 k Hk H
          · replace H := (gm_ite H).2 c13
            refine go_iconst (v := (0 : Int32)) dL_law_261 rfl ?_
            obtain rfl := Option.some.inj H
            exact go_ireturn (x := (0 : Int32)) dL_law_262 (tyI_bool rfl (by decide))
        · replace H := (gm_ite H).2 c10
          by_cases c14 : (x1 &&& (31 : Int32)) = (3 : Int32)
          · replace H := (gm_ite H).1 c14
            refine go_eqI c14 ?_
            refine go_tableIn (tgt := 263) dL_law_33 (by decide) (by decide) rfl (by decide) ?_
            refine go_aloadn dL_law_263 rfl ?_
            refine go_aloadn dL_law_264 rfl ?_
            refine go_iloadn dL_law_265 rfl ?_
            refine go_iconst (v := (1 : Int32)) dL_law_266 rfl ?_
            refine go_iadd dL_law_267 ?_
            refine gm_xald dL_law_268 H (fun x24 H => ?_)
            obtain ⟨c15, x25, ex25, H⟩ := gm_rc H
            refine go_callV (vs := [aI x24]) (stk := []) (o1 := (some (aI x25), h)) mk_X11_fault sv_L_law_28 cl_X11 rfl dL_law_269 c15 rfl rfl (Nat.le_of_ble_eq_true rfl) (Nat.le_of_ble_eq_true rfl) (ok_X11_fault ex25) (show Go M_L_law (some (aI r.1), r.2) 272 [some (aA 1), some (aA v1), some (aA v2), some (aI v3)] [aI x25] h from ?_)
            refine go_aloadn dL_law_272 rfl ?_
            refine go_aloadn dL_law_273 rfl ?_
            refine go_iloadn dL_law_274 rfl ?_
            refine go_iconst (v := (1 : Int32)) dL_law_275 rfl ?_
            refine go_iadd dL_law_276 ?_
            refine gm_xald dL_law_277 H (fun x26 H => ?_)
            obtain ⟨c16, x27, ex27, H⟩ := gm_rc H
            refine go_callV (vs := [aI x26]) (stk := [aI x25]) (o1 := (some (aI x27.1), x27.2)) mk_X12_fault sv_L_law_31 cl_X12 rfl dL_law_278 c16 rfl rfl (Nat.le_of_ble_eq_true rfl) (Nat.le_of_ble_eq_true rfl) (ok_X12_fault ex27) (show Go M_L_law (some (aI r.1), r.2) 281 [some (aA 1), some (aA v1), some (aA v2), some (aI v3)] [aI x27.1, aI x25] x27.2 from ?_)
            refine go_icmp_eq (tgt := 1254) dL_law_281 (by decide) (fun c17 => ?_) (fun c17 => ?_)
            · replace H := (gm_ite H).1 c17
              exact okj_L_law_1254 v1 v2 v3 x27.2 k Hk H
            · replace H := (gm_ite H).2 c17
              refine go_iconst (v := (0 : Int32)) dL_law_284 rfl ?_
              obtain rfl := Option.some.inj H
              exact go_ireturn (x := (0 : Int32)) dL_law_285 (tyI_bool rfl (by decide))
          · replace H := (gm_ite H).2 c14
            by_cases c18 : (x1 &&& (31 : Int32)) = (4 : Int32)
            · replace H := (gm_ite H).1 c18
              refine go_eqI c18 ?_
              refine go_tableIn (tgt := 286) dL_law_33 (by decide) (by decide) rfl (by decide) ?_
              refine go_aloadn dL_law_286 rfl ?_
              refine go_aloadn dL_law_287 rfl ?_
              refine go_iloadn dL_law_288 rfl ?_
              refine go_iconst (v := (1 : Int32)) dL_law_289 rfl ?_
              refine go_iadd dL_law_290 ?_
              refine gm_xald dL_law_291 H (fun x28 H => ?_)
              refine go_aloadn dL_law_292 rfl ?_
              refine go_iloadn dL_law_293 rfl ?_
              refine go_iconst (v := (2 : Int32)) dL_law_294 rfl ?_
              refine go_iadd dL_law_295 ?_
              refine gm_xald dL_law_296 H (fun x29 H => ?_)
              obtain ⟨c19, x30, ex30, H⟩ := gm_rc H
              refine go_callV (vs := [aI x28, aI x29]) (stk := []) (o1 := (some (aI x30), h)) mk_X11_archive sv_L_law_32 cl_X11 rfl dL_law_297 c19 rfl rfl (Nat.le_of_ble_eq_true rfl) (Nat.le_of_ble_eq_true rfl) (ok_X11_archive ex30) (show Go M_L_law (some (aI r.1), r.2) 300 [some (aA 1), some (aA v1), some (aA v2), some (aI v3)] [aI x30] h from ?_)
              refine go_aloadn dL_law_300 rfl ?_
              refine go_aloadn dL_law_301 rfl ?_
              refine go_iloadn dL_law_302 rfl ?_
              refine go_iconst (v := (1 : Int32)) dL_law_303 rfl ?_
              refine go_iadd dL_law_304 ?_
              refine gm_xald dL_law_305 H (fun x31 H => ?_)
              refine go_aloadn dL_law_306 rfl ?_
              refine go_iloadn dL_law_307 rfl ?_
              refine go_iconst (v := (2 : Int32)) dL_law_308 rfl ?_
              refine go_iadd dL_law_309 ?_
              refine gm_xald dL_law_310 H (fun x32 H => ?_)
              obtain ⟨c20, x33, ex33, H⟩ := gm_rc H
              refine go_callV (vs := [aI x31, aI x32]) (stk := [aI x30]) (o1 := (some (aI x33.1), x33.2)) mk_X12_archive sv_L_law_35 cl_X12 rfl dL_law_311 c20 rfl rfl (Nat.le_of_ble_eq_true rfl) (Nat.le_of_ble_eq_true rfl) (ok_X12_archive ex33) (show Go M_L_law (some (aI r.1), r.2) 314 [some (aA 1), some (aA v1), some (aA v2), some (aI v3)] [aI x33.1, aI x30] x33.2 from ?_)
              refine go_icmp_eq (tgt := 1254) dL_law_314 (by decide) (fun c21 => ?_) (fun c21 => ?_)
              · replace H := (gm_ite H).1 c21
                exact okj_L_law_1254 v1 v2 v3 x33.2 k Hk H
              · replace H := (gm_ite H).2 c21
                refine go_iconst (v := (0 : Int32)) dL_law_317 rfl ?_
                obtain rfl := Option.some.inj H
                exact go_ireturn (x := (0 : Int32)) dL_law_318 (tyI_bool rfl (by decide))
            · replace H := (gm_ite H).2 c18
              by_cases c22 : (x1 &&& (31 : Int32)) = (5 : Int32)
              · replace H := (gm_ite H).1 c22
                refine go_eqI c22 ?_
                refine go_tableIn (tgt := 319) dL_law_33 (by decide) (by decide) rfl (by decide) ?_
                refine go_aloadn dL_law_319 rfl ?_
                refine go_aloadn dL_law_320 rfl ?_
                refine go_iloadn dL_law_321 rfl ?_
                refine go_iconst (v := (1 : Int32)) dL_law_322 rfl ?_
                refine go_iadd dL_law_323 ?_
                refine gm_xald dL_law_324 H (fun x34 H => ?_)
                refine go_aloadn dL_law_325 rfl ?_
                refine go_iloadn dL_law_326 rfl ?_
                refine go_iconst (v := (2 : Int32)) dL_law_327 rfl ?_
                refine go_iadd dL_law_328 ?_
                refine gm_xald dL_law_329 H (fun x35 H => ?_)
                refine go_aloadn dL_law_330 rfl ?_
                refine go_iloadn dL_law_331 rfl ?_
                refine go_iconst (v := (3 : Int32)) dL_law_332 rfl ?_
                refine go_iadd dL_law_333 ?_
                refine gm_xald dL_law_334 H (fun x36 H => ?_)
                refine go_aloadn dL_law_335 rfl ?_
                refine go_iloadn dL_law_336 rfl ?_
                refine go_iconst (v := (4 : Int32)) dL_law_337 rfl ?_
                refine go_iadd dL_law_338 ?_
                refine gm_xald dL_law_339 H (fun x37 H => ?_)
                obtain ⟨c23, x38, ex38, H⟩ := gm_rc H
                refine go_callV (vs := [aI x34, aI x35, aI x36, aI x37]) (stk := []) (o1 := (some (aI x38), h)) mk_X11_version sv_L_law_36 cl_X11 rfl dL_law_340 c23 rfl rfl (Nat.le_of_ble_eq_true rfl) (Nat.le_of_ble_eq_true rfl) (ok_X11_version ex38) (show Go M_L_law (some (aI r.1), r.2) 343 [some (aA 1), some (aA v1), some (aA v2), some (aI v3)] [aI x38] h from ?_)
                refine go_aloadn dL_law_343 rfl ?_
                refine go_aloadn dL_law_344 rfl ?_
                refine go_iloadn dL_law_345 rfl ?_
                refine go_iconst (v := (1 : Int32)) dL_law_346 rfl ?_
                refine go_iadd dL_law_347 ?_
                refine gm_xald dL_law_348 H (fun x39 H => ?_)
                refine go_aloadn dL_law_349 rfl ?_
                refine go_iloadn dL_law_350 rfl ?_
                refine go_iconst (v := (2 : Int32)) dL_law_351 rfl ?_
                refine go_iadd dL_law_352 ?_
                refine gm_xald dL_law_353 H (fun x40 H => ?_)
                refine go_aloadn dL_law_354 rfl ?_
                refine go_iloadn dL_law_355 rfl ?_
                refine go_iconst (v := (3 : Int32)) dL_law_356 rfl ?_
                refine go_iadd dL_law_357 ?_
                refine gm_xald dL_law_358 H (fun x41 H => ?_)
                refine go_aloadn dL_law_359 rfl ?_
                refine go_iloadn dL_law_360 rfl ?_
                refine go_iconst (v := (4 : Int32)) dL_law_361 rfl ?_
                refine go_iadd dL_law_362 ?_
                refine gm_xald dL_law_363 H (fun x42 H => ?_)
                obtain ⟨c24, x43, ex43, H⟩ := gm_rc H
                refine go_callV (vs := [aI x39, aI x40, aI x41, aI x42]) (stk := [aI x38]) (o1 := (some (aI x43.1), x43.2)) mk_X12_version sv_L_law_40 cl_X12 rfl dL_law_364 c24 rfl rfl (Nat.le_of_ble_eq_true rfl) (Nat.le_of_ble_eq_true rfl) (ok_X12_version ex43) (show Go M_L_law (some (aI r.1), r.2) 367 [some (aA 1), some (aA v1), some (aA v2), some (aI v3)] [aI x43.1, aI x38] x43.2 from ?_)
                refine go_icmp_eq (tgt := 1254) dL_law_367 (by decide) (fun c25 => ?_) (fun c25 => ?_)
                · replace H := (gm_ite H).1 c25
                  exact okj_L_law_1254 v1 v2 v3 x43.2 k Hk H
                · replace H := (gm_ite H).2 c25
                  refine go_iconst (v := (0 : Int32)) dL_law_370 rfl ?_
                  obtain rfl := Option.some.inj H
                  exact go_ireturn (x := (0 : Int32)) dL_law_371 (tyI_bool rfl (by decide))
              · replace H := (gm_ite H).2 c22
                by_cases c26 : (x1 &&& (31 : Int32)) = (6 : Int32)
                · replace H := (gm_ite H).1 c26
                  refine go_eqI c26 ?_
                  refine go_tableIn (tgt := 372) dL_law_33 (by decide) (by decide) rfl (by decide) ?_
                  refine go_aloadn dL_law_372 rfl ?_
                  refine go_aloadn dL_law_373 rfl ?_
                  refine go_iloadn dL_law_374 rfl ?_
                  refine go_iconst (v := (1 : Int32)) dL_law_375 rfl ?_
                  refine go_iadd dL_law_376 ?_
                  refine gm_xald dL_law_377 H (fun x44 H => ?_)
                  refine go_aloadn dL_law_378 rfl ?_
                  refine go_iloadn dL_law_379 rfl ?_
                  refine go_iconst (v := (2 : Int32)) dL_law_380 rfl ?_
                  refine go_iadd dL_law_381 ?_
                  refine gm_xald dL_law_382 H (fun x45 H => ?_)
                  refine go_aloadn dL_law_383 rfl ?_
                  refine go_iloadn dL_law_384 rfl ?_
                  refine go_iconst (v := (3 : Int32)) dL_law_385 rfl ?_
                  refine go_iadd dL_law_386 ?_
                  refine gm_xald dL_law_387 H (fun x46 H => ?_)
                  refine go_aloadn dL_law_388 rfl ?_
                  refine go_iloadn dL_law_389 rfl ?_
                  refine go_iconst (v := (4 : Int32)) dL_law_390 rfl ?_
                  refine go_iadd dL_law_391 ?_
                  refine gm_xald dL_law_392 H (fun x47 H => ?_)
                  refine go_aloadn dL_law_393 rfl ?_
                  refine go_iloadn dL_law_394 rfl ?_
                  refine go_iconst (v := (5 : Int32)) dL_law_395 rfl ?_
                  refine go_iadd dL_law_396 ?_
                  refine gm_xald dL_law_397 H (fun x48 H => ?_)
                  obtain ⟨c27, x49, ex49, H⟩ := gm_rc H
                  refine go_callV (vs := [aI x44, aI x45, aI x46, aI x47, aI x48]) (stk := []) (o1 := (some (aI x49), h)) mk_X11_life sv_L_law_41 cl_X11 rfl dL_law_398 c27 rfl rfl (Nat.le_of_ble_eq_true rfl) (Nat.le_of_ble_eq_true rfl) (ok_X11_life ex49) (show Go M_L_law (some (aI r.1), r.2) 401 [some (aA 1), some (aA v1), some (aA v2), some (aI v3)] [aI x49] h from ?_)
                  refine go_aloadn dL_law_401 rfl ?_
                  refine go_aloadn dL_law_402 rfl ?_
                  refine go_iloadn dL_law_403 rfl ?_
                  refine go_iconst (v := (1 : Int32)) dL_law_404 rfl ?_
                  refine go_iadd dL_law_405 ?_
                  refine gm_xald dL_law_406 H (fun x50 H => ?_)
                  refine go_aloadn dL_law_407 rfl ?_
                  refine go_iloadn dL_law_408 rfl ?_
                  refine go_iconst (v := (2 : Int32)) dL_law_409 rfl ?_
                  refine go_iadd dL_law_410 ?_
                  refine gm_xald dL_law_411 H (fun x51 H => ?_)
                  refine go_aloadn dL_law_412 rfl ?_
                  refine go_iloadn dL_law_413 rfl ?_
                  refine go_iconst (v := (3 : Int32)) dL_law_414 rfl ?_
                  refine go_iadd dL_law_415 ?_
                  refine gm_xald dL_law_416 H (fun x52 H => ?_)
                  refine go_aloadn dL_law_417 rfl ?_
                  refine go_iloadn dL_law_418 rfl ?_
                  refine go_iconst (v := (4 : Int32)) dL_law_419 rfl ?_
                  refine go_iadd dL_law_420 ?_
                  refine gm_xald dL_law_421 H (fun x53 H => ?_)
                  refine go_aloadn dL_law_422 rfl ?_
                  refine go_iloadn dL_law_423 rfl ?_
                  refine go_iconst (v := (5 : Int32)) dL_law_424 rfl ?_
                  refine go_iadd dL_law_425 ?_
                  refine gm_xald dL_law_426 H (fun x54 H => ?_)
                  obtain ⟨c28, x55, ex55, H⟩ := gm_rc H
                  refine go_callV (vs := [aI x50, aI x51, aI x52, aI x53, aI x54]) (stk := [aI x49]) (o1 := (some (aI x55.1), x55.2)) mk_X12_life sv_L_law_44 cl_X12 rfl dL_law_427 c28 rfl rfl (Nat.le_of_ble_eq_true rfl) (Nat.le_of_ble_eq_true rfl) (ok_X12_life ex55) (show Go M_L_law (some (aI r.1), r.2) 430 [some (aA 1), some (aA v1), some (aA v2), some (aI v3)] [aI x55.1, aI x49] x55.2 from ?_)
                  refine go_icmp_eq (tgt := 1254) dL_law_430 (by decide) (fun c29 => ?_) (fun c29 => ?_)
                  · replace H := (gm_ite H).1 c29
                    exact okj_L_law_1254 v1 v2 v3 x55.2 k Hk H
                  · replace H := (gm_ite H).2 c29
                    refine go_iconst (v := (0 : Int32)) dL_law_433 rfl ?_
                    obtain rfl := Option.some.inj H
                    exact go_ireturn (x := (0 : Int32)) dL_law_434 (tyI_bool rfl (by decide))
                · replace H := (gm_ite H).2 c26
                  by_cases c30 : (x1 &&& (31 : Int32)) = (7 : Int32)
                  · replace H := (gm_ite H).1 c30
                    refine go_eqI c30 ?_
                    refine go_tableIn (tgt := 435) dL_law_33 (by decide) (by decide) rfl (by decide) ?_
                    refine go_aloadn dL_law_435 rfl ?_
                    refine go_aloadn dL_law_436 rfl ?_
                    refine go_iloadn dL_law_437 rfl ?_
                    refine go_iconst (v := (1 : Int32)) dL_law_438 rfl ?_
                    refine go_iadd dL_law_439 ?_
                    refine gm_xald dL_law_440 H (fun x56 H => ?_)
                    refine go_aloadn dL_law_441 rfl ?_
                    refine go_iloadn dL_law_442 rfl ?_
                    refine go_iconst (v := (2 : Int32)) dL_law_443 rfl ?_
                    refine go_iadd dL_law_444 ?_
                    refine gm_xald dL_law_445 H (fun x57 H => ?_)
                    refine go_aloadn dL_law_446 rfl ?_
                    refine go_iloadn dL_law_447 rfl ?_
                    refine go_iconst (v := (3 : Int32)) dL_law_448 rfl ?_
                    refine go_iadd dL_law_449 ?_
                    refine gm_xald dL_law_450 H (fun x58 H => ?_)
                    obtain ⟨c31, x59, ex59, H⟩ := gm_rc H
                    refine go_callV (vs := [aI x56, aI x57, aI x58]) (stk := []) (o1 := (some (aI x59), h)) mk_X11_word sv_L_law_45 cl_X11 rfl dL_law_451 c31 rfl rfl (Nat.le_of_ble_eq_true rfl) (Nat.le_of_ble_eq_true rfl) (ok_X11_word ex59) (show Go M_L_law (some (aI r.1), r.2) 454 [some (aA 1), some (aA v1), some (aA v2), some (aI v3)] [aI x59] h from ?_)
                    refine go_aloadn dL_law_454 rfl ?_
                    refine go_aloadn dL_law_455 rfl ?_
                    refine go_iloadn dL_law_456 rfl ?_
                    refine go_iconst (v := (1 : Int32)) dL_law_457 rfl ?_
                    refine go_iadd dL_law_458 ?_
                    refine gm_xald dL_law_459 H (fun x60 H => ?_)
                    refine go_aloadn dL_law_460 rfl ?_
                    refine go_iloadn dL_law_461 rfl ?_
                    refine go_iconst (v := (2 : Int32)) dL_law_462 rfl ?_
                    refine go_iadd dL_law_463 ?_
                    refine gm_xald dL_law_464 H (fun x61 H => ?_)
                    refine go_aloadn dL_law_465 rfl ?_
                    refine go_iloadn dL_law_466 rfl ?_
                    refine go_iconst (v := (3 : Int32)) dL_law_467 rfl ?_
                    refine go_iadd dL_law_468 ?_
                    refine gm_xald dL_law_469 H (fun x62 H => ?_)
                    obtain ⟨c32, x63, ex63, H⟩ := gm_rc H
                    refine go_callV (vs := [aI x60, aI x61, aI x62]) (stk := [aI x59]) (o1 := (some (aI x63.1), x63.2)) mk_X12_word sv_L_law_49 cl_X12 rfl dL_law_470 c32 rfl rfl (Nat.le_of_ble_eq_true rfl) (Nat.le_of_ble_eq_true rfl) (ok_X12_word ex63) (show Go M_L_law (some (aI r.1), r.2) 473 [some (aA 1), some (aA v1), some (aA v2), some (aI v3)] [aI x63.1, aI x59] x63.2 from ?_)
                    refine go_icmp_eq (tgt := 1254) dL_law_473 (by decide) (fun c33 => ?_) (fun c33 => ?_)
                    · replace H := (gm_ite H).1 c33
                      exact okj_L_law_1254 v1 v2 v3 x63.2 k Hk H
                    · replace H := (gm_ite H).2 c33
                      refine go_iconst (v := (0 : Int32)) dL_law_476 rfl ?_
                      obtain rfl := Option.some.inj H
                      exact go_ireturn (x := (0 : Int32)) dL_law_477 (tyI_bool rfl (by decide))
                  · replace H := (gm_ite H).2 c30
                    by_cases c34 : (x1 &&& (31 : Int32)) = (8 : Int32)
                    · replace H := (gm_ite H).1 c34
                      refine go_eqI c34 ?_
                      refine go_tableIn (tgt := 478) dL_law_33 (by decide) (by decide) rfl (by decide) ?_
                      refine go_aloadn dL_law_478 rfl ?_
                      refine go_aloadn dL_law_479 rfl ?_
                      refine go_iloadn dL_law_480 rfl ?_
                      refine go_iconst (v := (1 : Int32)) dL_law_481 rfl ?_
                      refine go_iadd dL_law_482 ?_
                      refine gm_xald dL_law_483 H (fun x64 H => ?_)
                      refine go_aloadn dL_law_484 rfl ?_
                      refine go_iloadn dL_law_485 rfl ?_
                      refine go_iconst (v := (2 : Int32)) dL_law_486 rfl ?_
                      refine go_iadd dL_law_487 ?_
                      refine gm_xald dL_law_488 H (fun x65 H => ?_)
                      obtain ⟨c35, x66, ex66, H⟩ := gm_rc H
                      refine go_callV (vs := [aI x64, aI x65]) (stk := []) (o1 := (some (aI x66), h)) mk_X11_dated sv_L_law_50 cl_X11 rfl dL_law_489 c35 rfl rfl (Nat.le_of_ble_eq_true rfl) (Nat.le_of_ble_eq_true rfl) (ok_X11_dated ex66) (show Go M_L_law (some (aI r.1), r.2) 492 [some (aA 1), some (aA v1), some (aA v2), some (aI v3)] [aI x66] h from ?_)
                      refine go_aloadn dL_law_492 rfl ?_
                      refine go_aloadn dL_law_493 rfl ?_
                      refine go_iloadn dL_law_494 rfl ?_
                      refine go_iconst (v := (1 : Int32)) dL_law_495 rfl ?_
                      refine go_iadd dL_law_496 ?_
                      refine gm_xald dL_law_497 H (fun x67 H => ?_)
                      refine go_aloadn dL_law_498 rfl ?_
                      refine go_iloadn dL_law_499 rfl ?_
                      refine go_iconst (v := (2 : Int32)) dL_law_500 rfl ?_
                      refine go_iadd dL_law_501 ?_
                      refine gm_xald dL_law_502 H (fun x68 H => ?_)
                      obtain ⟨c36, x69, ex69, H⟩ := gm_rc H
                      refine go_callV (vs := [aI x67, aI x68]) (stk := [aI x66]) (o1 := (some (aI x69.1), x69.2)) mk_X12_dated sv_L_law_53 cl_X12 rfl dL_law_503 c36 rfl rfl (Nat.le_of_ble_eq_true rfl) (Nat.le_of_ble_eq_true rfl) (ok_X12_dated ex69) (show Go M_L_law (some (aI r.1), r.2) 506 [some (aA 1), some (aA v1), some (aA v2), some (aI v3)] [aI x69.1, aI x66] x69.2 from ?_)
                      refine go_icmp_eq (tgt := 1254) dL_law_506 (by decide) (fun c37 => ?_) (fun c37 => ?_)
                      · replace H := (gm_ite H).1 c37
                        exact okj_L_law_1254 v1 v2 v3 x69.2 k Hk H
                      · replace H := (gm_ite H).2 c37
                        refine go_iconst (v := (0 : Int32)) dL_law_509 rfl ?_
                        obtain rfl := Option.some.inj H
                        exact go_ireturn (x := (0 : Int32)) dL_law_510 (tyI_bool rfl (by decide))
                    · replace H := (gm_ite H).2 c34
                      by_cases c38 : (x1 &&& (31 : Int32)) = (9 : Int32)
                      · replace H := (gm_ite H).1 c38
                        refine go_eqI c38 ?_
                        refine go_tableIn (tgt := 511) dL_law_33 (by decide) (by decide) rfl (by decide) ?_
                        refine go_aloadn dL_law_511 rfl ?_
                        refine go_aloadn dL_law_512 rfl ?_
                        refine go_iloadn dL_law_513 rfl ?_
                        refine go_iconst (v := (1 : Int32)) dL_law_514 rfl ?_
                        refine go_iadd dL_law_515 ?_
                        refine gm_xald dL_law_516 H (fun x70 H => ?_)
                        refine go_aloadn dL_law_517 rfl ?_
                        refine go_iloadn dL_law_518 rfl ?_
                        refine go_iconst (v := (2 : Int32)) dL_law_519 rfl ?_
                        refine go_iadd dL_law_520 ?_
                        refine gm_xald dL_law_521 H (fun x71 H => ?_)
                        refine go_aloadn dL_law_522 rfl ?_
                        refine go_iloadn dL_law_523 rfl ?_
                        refine go_iconst (v := (3 : Int32)) dL_law_524 rfl ?_
                        refine go_iadd dL_law_525 ?_
                        refine gm_xald dL_law_526 H (fun x72 H => ?_)
                        refine go_aloadn dL_law_527 rfl ?_
                        refine go_iloadn dL_law_528 rfl ?_
                        refine go_iconst (v := (4 : Int32)) dL_law_529 rfl ?_
                        refine go_iadd dL_law_530 ?_
                        refine gm_xald dL_law_531 H (fun x73 H => ?_)
                        obtain ⟨c39, x74, ex74, H⟩ := gm_rc H
                        refine go_callV (vs := [aI x70, aI x71, aI x72, aI x73]) (stk := []) (o1 := (some (aI x74), h)) mk_X11_shared sv_L_law_54 cl_X11 rfl dL_law_532 c39 rfl rfl (Nat.le_of_ble_eq_true rfl) (Nat.le_of_ble_eq_true rfl) (ok_X11_shared ex74) (show Go M_L_law (some (aI r.1), r.2) 535 [some (aA 1), some (aA v1), some (aA v2), some (aI v3)] [aI x74] h from ?_)
                        refine go_aloadn dL_law_535 rfl ?_
                        refine go_aloadn dL_law_536 rfl ?_
                        refine go_iloadn dL_law_537 rfl ?_
                        refine go_iconst (v := (1 : Int32)) dL_law_538 rfl ?_
                        refine go_iadd dL_law_539 ?_
                        refine gm_xald dL_law_540 H (fun x75 H => ?_)
                        refine go_aloadn dL_law_541 rfl ?_
                        refine go_iloadn dL_law_542 rfl ?_
                        refine go_iconst (v := (2 : Int32)) dL_law_543 rfl ?_
                        refine go_iadd dL_law_544 ?_
                        refine gm_xald dL_law_545 H (fun x76 H => ?_)
                        refine go_aloadn dL_law_546 rfl ?_
                        refine go_iloadn dL_law_547 rfl ?_
                        refine go_iconst (v := (3 : Int32)) dL_law_548 rfl ?_
                        refine go_iadd dL_law_549 ?_
                        refine gm_xald dL_law_550 H (fun x77 H => ?_)
                        refine go_aloadn dL_law_551 rfl ?_
                        refine go_iloadn dL_law_552 rfl ?_
                        refine go_iconst (v := (4 : Int32)) dL_law_553 rfl ?_
                        refine go_iadd dL_law_554 ?_
                        refine gm_xald dL_law_555 H (fun x78 H => ?_)
                        obtain ⟨c40, x79, ex79, H⟩ := gm_rc H
                        refine go_callV (vs := [aI x75, aI x76, aI x77, aI x78]) (stk := [aI x74]) (o1 := (some (aI x79.1), x79.2)) mk_X12_shared sv_L_law_57 cl_X12 rfl dL_law_556 c40 rfl rfl (Nat.le_of_ble_eq_true rfl) (Nat.le_of_ble_eq_true rfl) (ok_X12_shared ex79) (show Go M_L_law (some (aI r.1), r.2) 559 [some (aA 1), some (aA v1), some (aA v2), some (aI v3)] [aI x79.1, aI x74] x79.2 from ?_)
                        refine go_icmp_eq (tgt := 1254) dL_law_559 (by decide) (fun c41 => ?_) (fun c41 => ?_)
                        · replace H := (gm_ite H).1 c41
                          exact okj_L_law_1254 v1 v2 v3 x79.2 k Hk H
                        · replace H := (gm_ite H).2 c41
                          refine go_iconst (v := (0 : Int32)) dL_law_562 rfl ?_
                          obtain rfl := Option.some.inj H
                          exact go_ireturn (x := (0 : Int32)) dL_law_563 (tyI_bool rfl (by decide))
                      · replace H := (gm_ite H).2 c38
                        by_cases c42 : (x1 &&& (31 : Int32)) = (10 : Int32)
                        · replace H := (gm_ite H).1 c42
                          refine go_eqI c42 ?_
                          refine go_tableIn (tgt := 564) dL_law_33 (by decide) (by decide) rfl (by decide) ?_
                          refine go_aloadn dL_law_564 rfl ?_
                          refine go_aloadn dL_law_565 rfl ?_
                          refine go_iloadn dL_law_566 rfl ?_
                          refine go_iconst (v := (1 : Int32)) dL_law_567 rfl ?_
                          refine go_iadd dL_law_568 ?_
                          refine gm_xald dL_law_569 H (fun x80 H => ?_)
                          refine go_aloadn dL_law_570 rfl ?_
                          refine go_iloadn dL_law_571 rfl ?_
                          refine go_iconst (v := (2 : Int32)) dL_law_572 rfl ?_
                          refine go_iadd dL_law_573 ?_
                          refine gm_xald dL_law_574 H (fun x81 H => ?_)
                          refine go_aloadn dL_law_575 rfl ?_
                          refine go_iloadn dL_law_576 rfl ?_
                          refine go_iconst (v := (3 : Int32)) dL_law_577 rfl ?_
                          refine go_iadd dL_law_578 ?_
                          refine gm_xald dL_law_579 H (fun x82 H => ?_)
                          refine go_aloadn dL_law_580 rfl ?_
                          refine go_iloadn dL_law_581 rfl ?_
                          refine go_iconst (v := (4 : Int32)) dL_law_582 rfl ?_
                          refine go_iadd dL_law_583 ?_
                          refine gm_xald dL_law_584 H (fun x83 H => ?_)
                          refine go_aloadn dL_law_585 rfl ?_
                          refine go_iloadn dL_law_586 rfl ?_
                          refine go_iconst (v := (5 : Int32)) dL_law_587 rfl ?_
                          refine go_iadd dL_law_588 ?_
                          refine gm_xald dL_law_589 H (fun x84 H => ?_)
                          obtain ⟨c43, x85, ex85, H⟩ := gm_rc H
                          refine go_callV (vs := [aI x80, aI x81, aI x82, aI x83, aI x84]) (stk := []) (o1 := (some (aI x85.1), x85.2)) mk_X11_common sv_L_law_58 cl_X11 rfl dL_law_590 c43 rfl rfl (Nat.le_of_ble_eq_true rfl) (Nat.le_of_ble_eq_true rfl) (ok_X11_common ex85) (show Go M_L_law (some (aI r.1), r.2) 593 [some (aA 1), some (aA v1), some (aA v2), some (aI v3)] [aI x85.1] x85.2 from ?_)
                          refine go_aloadn dL_law_593 rfl ?_
                          refine go_aloadn dL_law_594 rfl ?_
                          refine go_iloadn dL_law_595 rfl ?_
                          refine go_iconst (v := (1 : Int32)) dL_law_596 rfl ?_
                          refine go_iadd dL_law_597 ?_
                          refine gm_xald dL_law_598 H (fun x86 H => ?_)
                          refine go_aloadn dL_law_599 rfl ?_
                          refine go_iloadn dL_law_600 rfl ?_
                          refine go_iconst (v := (2 : Int32)) dL_law_601 rfl ?_
                          refine go_iadd dL_law_602 ?_
                          refine gm_xald dL_law_603 H (fun x87 H => ?_)
                          refine go_aloadn dL_law_604 rfl ?_
                          refine go_iloadn dL_law_605 rfl ?_
                          refine go_iconst (v := (3 : Int32)) dL_law_606 rfl ?_
                          refine go_iadd dL_law_607 ?_
                          refine gm_xald dL_law_608 H (fun x88 H => ?_)
                          refine go_aloadn dL_law_609 rfl ?_
                          refine go_iloadn dL_law_610 rfl ?_
                          refine go_iconst (v := (4 : Int32)) dL_law_611 rfl ?_
                          refine go_iadd dL_law_612 ?_
                          refine gm_xald dL_law_613 H (fun x89 H => ?_)
                          refine go_aloadn dL_law_614 rfl ?_
                          refine go_iloadn dL_law_615 rfl ?_
                          refine go_iconst (v := (5 : Int32)) dL_law_616 rfl ?_
                          refine go_iadd dL_law_617 ?_
                          refine gm_xald dL_law_618 H (fun x90 H => ?_)
                          obtain ⟨c44, x91, ex91, H⟩ := gm_rc H
                          refine go_callV (vs := [aI x86, aI x87, aI x88, aI x89, aI x90]) (stk := [aI x85.1]) (o1 := (some (aI x91.1), x91.2)) mk_X12_common sv_L_law_61 cl_X12 rfl dL_law_619 c44 rfl rfl (Nat.le_of_ble_eq_true rfl) (Nat.le_of_ble_eq_true rfl) (ok_X12_common ex91) (show Go M_L_law (some (aI r.1), r.2) 622 [some (aA 1), some (aA v1), some (aA v2), some (aI v3)] [aI x91.1, aI x85.1] x91.2 from ?_)
                          refine go_icmp_eq (tgt := 1254) dL_law_622 (by decide) (fun c45 => ?_) (fun c45 => ?_)
                          · replace H := (gm_ite H).1 c45
                            exact okj_L_law_1254 v1 v2 v3 x91.2 k Hk H
                          · replace H := (gm_ite H).2 c45
                            refine go_iconst (v := (0 : Int32)) dL_law_625 rfl ?_
                            obtain rfl := Option.some.inj H
                            exact go_ireturn (x := (0 : Int32)) dL_law_626 (tyI_bool rfl (by decide))
                        · replace H := (gm_ite H).2 c42
                          by_cases c46 : (x1 &&& (31 : Int32)) = (11 : Int32)
                          · replace H := (gm_ite H).1 c46
                            refine go_eqI c46 ?_
                            refine go_tableIn (tgt := 627) dL_law_33 (by decide) (by decide) rfl (by decide) ?_
                            refine go_aloadn dL_law_627 rfl ?_
                            refine go_aloadn dL_law_628 rfl ?_
                            refine go_iloadn dL_law_629 rfl ?_
                            refine go_iconst (v := (1 : Int32)) dL_law_630 rfl ?_
                            refine go_iadd dL_law_631 ?_
                            refine gm_xald dL_law_632 H (fun x92 H => ?_)
                            refine go_aloadn dL_law_633 rfl ?_
                            refine go_iloadn dL_law_634 rfl ?_
                            refine go_iconst (v := (2 : Int32)) dL_law_635 rfl ?_
                            refine go_iadd dL_law_636 ?_
                            refine gm_xald dL_law_637 H (fun x93 H => ?_)
                            refine go_aloadn dL_law_638 rfl ?_
                            refine go_iloadn dL_law_639 rfl ?_
                            refine go_iconst (v := (3 : Int32)) dL_law_640 rfl ?_
                            refine go_iadd dL_law_641 ?_
                            refine gm_xald dL_law_642 H (fun x94 H => ?_)
                            obtain ⟨c47, x95, ex95, H⟩ := gm_rc H
                            refine go_callV (vs := [aI x92, aI x93, aI x94]) (stk := []) (o1 := (some (aI x95), h)) mk_X11_question sv_L_law_62 cl_X11 rfl dL_law_643 c47 rfl rfl (Nat.le_of_ble_eq_true rfl) (Nat.le_of_ble_eq_true rfl) (ok_X11_question ex95) (show Go M_L_law (some (aI r.1), r.2) 646 [some (aA 1), some (aA v1), some (aA v2), some (aI v3)] [aI x95] h from ?_)
                            refine go_aloadn dL_law_646 rfl ?_
                            refine go_aloadn dL_law_647 rfl ?_
                            refine go_iloadn dL_law_648 rfl ?_
                            refine go_iconst (v := (1 : Int32)) dL_law_649 rfl ?_
                            refine go_iadd dL_law_650 ?_
                            refine gm_xald dL_law_651 H (fun x96 H => ?_)
                            refine go_aloadn dL_law_652 rfl ?_
                            refine go_iloadn dL_law_653 rfl ?_
                            refine go_iconst (v := (2 : Int32)) dL_law_654 rfl ?_
                            refine go_iadd dL_law_655 ?_
                            refine gm_xald dL_law_656 H (fun x97 H => ?_)
                            refine go_aloadn dL_law_657 rfl ?_
                            refine go_iloadn dL_law_658 rfl ?_
                            refine go_iconst (v := (3 : Int32)) dL_law_659 rfl ?_
                            refine go_iadd dL_law_660 ?_
                            refine gm_xald dL_law_661 H (fun x98 H => ?_)
                            obtain ⟨c48, x99, ex99, H⟩ := gm_rc H
                            refine go_callV (vs := [aI x96, aI x97, aI x98]) (stk := [aI x95]) (o1 := (some (aI x99.1), x99.2)) mk_X12_question sv_L_law_65 cl_X12 rfl dL_law_662 c48 rfl rfl (Nat.le_of_ble_eq_true rfl) (Nat.le_of_ble_eq_true rfl) (ok_X12_question ex99) (show Go M_L_law (some (aI r.1), r.2) 665 [some (aA 1), some (aA v1), some (aA v2), some (aI v3)] [aI x99.1, aI x95] x99.2 from ?_)
                            refine go_icmp_eq (tgt := 1254) dL_law_665 (by decide) (fun c49 => ?_) (fun c49 => ?_)
                            · replace H := (gm_ite H).1 c49
                              exact okj_L_law_1254 v1 v2 v3 x99.2 k Hk H
                            · replace H := (gm_ite H).2 c49
                              refine go_iconst (v := (0 : Int32)) dL_law_668 rfl ?_
                              obtain rfl := Option.some.inj H
                              exact go_ireturn (x := (0 : Int32)) dL_law_669 (tyI_bool rfl (by decide))
                          · replace H := (gm_ite H).2 c46
                            by_cases c50 : (x1 &&& (31 : Int32)) = (12 : Int32)
                            · replace H := (gm_ite H).1 c50
                              refine go_eqI c50 ?_
                              refine go_tableIn (tgt := 670) dL_law_33 (by decide) (by decide) rfl (by decide) ?_
                              refine go_aloadn dL_law_670 rfl ?_
                              refine go_aloadn dL_law_671 rfl ?_
                              refine go_iloadn dL_law_672 rfl ?_
                              refine go_iconst (v := (1 : Int32)) dL_law_673 rfl ?_
                              refine go_iadd dL_law_674 ?_
                              refine gm_xald dL_law_675 H (fun x100 H => ?_)
                              refine go_aloadn dL_law_676 rfl ?_
                              refine go_iloadn dL_law_677 rfl ?_
                              refine go_iconst (v := (2 : Int32)) dL_law_678 rfl ?_
                              refine go_iadd dL_law_679 ?_
                              refine gm_xald dL_law_680 H (fun x101 H => ?_)
                              refine go_aloadn dL_law_681 rfl ?_
                              refine go_iloadn dL_law_682 rfl ?_
                              refine go_iconst (v := (3 : Int32)) dL_law_683 rfl ?_
                              refine go_iadd dL_law_684 ?_
                              refine gm_xald dL_law_685 H (fun x102 H => ?_)
                              refine go_aloadn dL_law_686 rfl ?_
                              refine go_iloadn dL_law_687 rfl ?_
                              refine go_iconst (v := (4 : Int32)) dL_law_688 rfl ?_
                              refine go_iadd dL_law_689 ?_
                              refine gm_xald dL_law_690 H (fun x103 H => ?_)
                              refine go_aloadn dL_law_691 rfl ?_
                              refine go_iloadn dL_law_692 rfl ?_
                              refine go_iconst (v := (5 : Int32)) dL_law_693 rfl ?_
                              refine go_iadd dL_law_694 ?_
                              refine gm_xald dL_law_695 H (fun x104 H => ?_)
                              obtain ⟨c51, x105, ex105, H⟩ := gm_rc H
                              refine go_callV (vs := [aI x100, aI x101, aI x102, aI x103, aI x104]) (stk := []) (o1 := (some (aI x105.1), x105.2)) mk_X11_holds sv_L_law_66 cl_X11 rfl dL_law_696 c51 rfl rfl (Nat.le_of_ble_eq_true rfl) (Nat.le_of_ble_eq_true rfl) (ok_X11_holds ex105) (show Go M_L_law (some (aI r.1), r.2) 699 [some (aA 1), some (aA v1), some (aA v2), some (aI v3)] [aI x105.1] x105.2 from ?_)
                              refine go_aloadn dL_law_699 rfl ?_
                              refine go_aloadn dL_law_700 rfl ?_
                              refine go_iloadn dL_law_701 rfl ?_
                              refine go_iconst (v := (1 : Int32)) dL_law_702 rfl ?_
                              refine go_iadd dL_law_703 ?_
                              refine gm_xald dL_law_704 H (fun x106 H => ?_)
                              refine go_aloadn dL_law_705 rfl ?_
                              refine go_iloadn dL_law_706 rfl ?_
                              refine go_iconst (v := (2 : Int32)) dL_law_707 rfl ?_
                              refine go_iadd dL_law_708 ?_
                              refine gm_xald dL_law_709 H (fun x107 H => ?_)
                              refine go_aloadn dL_law_710 rfl ?_
                              refine go_iloadn dL_law_711 rfl ?_
                              refine go_iconst (v := (3 : Int32)) dL_law_712 rfl ?_
                              refine go_iadd dL_law_713 ?_
                              refine gm_xald dL_law_714 H (fun x108 H => ?_)
                              refine go_aloadn dL_law_715 rfl ?_
                              refine go_iloadn dL_law_716 rfl ?_
                              refine go_iconst (v := (4 : Int32)) dL_law_717 rfl ?_
                              refine go_iadd dL_law_718 ?_
                              refine gm_xald dL_law_719 H (fun x109 H => ?_)
                              refine go_aloadn dL_law_720 rfl ?_
                              refine go_iloadn dL_law_721 rfl ?_
                              refine go_iconst (v := (5 : Int32)) dL_law_722 rfl ?_
                              refine go_iadd dL_law_723 ?_
                              refine gm_xald dL_law_724 H (fun x110 H => ?_)
                              obtain ⟨c52, x111, ex111, H⟩ := gm_rc H
                              refine go_callV (vs := [aI x106, aI x107, aI x108, aI x109, aI x110]) (stk := [aI x105.1]) (o1 := (some (aI x111.1), x111.2)) mk_X12_holds sv_L_law_69 cl_X12 rfl dL_law_725 c52 rfl rfl (Nat.le_of_ble_eq_true rfl) (Nat.le_of_ble_eq_true rfl) (ok_X12_holds ex111) (show Go M_L_law (some (aI r.1), r.2) 728 [some (aA 1), some (aA v1), some (aA v2), some (aI v3)] [aI x111.1, aI x105.1] x111.2 from ?_)
                              refine go_icmp_eq (tgt := 1254) dL_law_728 (by decide) (fun c53 => ?_) (fun c53 => ?_)
                              · replace H := (gm_ite H).1 c53
                                exact okj_L_law_1254 v1 v2 v3 x111.2 k Hk H
                              · replace H := (gm_ite H).2 c53
                                refine go_iconst (v := (0 : Int32)) dL_law_731 rfl ?_
                                obtain rfl := Option.some.inj H
                                exact go_ireturn (x := (0 : Int32)) dL_law_732 (tyI_bool rfl (by decide))
                            · replace H := (gm_ite H).2 c50
                              by_cases c54 : (x1 &&& (31 : Int32)) = (13 : Int32)
                              · replace H := (gm_ite H).1 c54
                                refine go_eqI c54 ?_
                                refine go_tableIn (tgt := 733) dL_law_33 (by decide) (by decide) rfl (by decide) ?_
                                refine go_aloadn dL_law_733 rfl ?_
                                refine go_aloadn dL_law_734 rfl ?_
                                refine go_iloadn dL_law_735 rfl ?_
                                refine go_iconst (v := (1 : Int32)) dL_law_736 rfl ?_
                                refine go_iadd dL_law_737 ?_
                                refine gm_xald dL_law_738 H (fun x112 H => ?_)
                                refine go_aloadn dL_law_739 rfl ?_
                                refine go_iloadn dL_law_740 rfl ?_
                                refine go_iconst (v := (2 : Int32)) dL_law_741 rfl ?_
                                refine go_iadd dL_law_742 ?_
                                refine gm_xald dL_law_743 H (fun x113 H => ?_)
                                refine go_aloadn dL_law_744 rfl ?_
                                refine go_iloadn dL_law_745 rfl ?_
                                refine go_iconst (v := (3 : Int32)) dL_law_746 rfl ?_
                                refine go_iadd dL_law_747 ?_
                                refine gm_xald dL_law_748 H (fun x114 H => ?_)
                                refine go_aloadn dL_law_749 rfl ?_
                                refine go_iloadn dL_law_750 rfl ?_
                                refine go_iconst (v := (4 : Int32)) dL_law_751 rfl ?_
                                refine go_iadd dL_law_752 ?_
                                refine gm_xald dL_law_753 H (fun x115 H => ?_)
                                refine go_aloadn dL_law_754 rfl ?_
                                refine go_iloadn dL_law_755 rfl ?_
                                refine go_iconst (v := (5 : Int32)) dL_law_756 rfl ?_
                                refine go_iadd dL_law_757 ?_
                                refine gm_xald dL_law_758 H (fun x116 H => ?_)
                                refine go_aloadn dL_law_759 rfl ?_
                                refine go_iloadn dL_law_760 rfl ?_
                                refine go_bipush (v := (6 : Int32)) dL_law_761 rfl ?_
                                refine go_iadd dL_law_763 ?_
                                refine gm_xald dL_law_764 H (fun x117 H => ?_)
                                refine go_if_eq (tgt := 772) dL_law_765 (by decide) (fun c55 => ?_) (fun c55 => ?_)
                                · replace H := (gm_ite H).1 c55
                                  refine go_iconst (v := (0 : Int32)) dL_law_772 rfl ?_
                                  exact okj_L_law_773 v1 v2 v3 v1 x112 x113 x114 x115 x116 (0 : Int32) h k Hk H
                                · replace H := (gm_ite H).2 c55
                                  refine go_iconst (v := (1 : Int32)) dL_law_768 rfl ?_
                                  refine go_goto (tgt := 773) dL_law_769 (by decide) ?_
                                  exact okj_L_law_773 v1 v2 v3 v1 x112 x113 x114 x115 x116 (1 : Int32) h k Hk H
                              · replace H := (gm_ite H).2 c54
                                by_cases c56 : (x1 &&& (31 : Int32)) = (14 : Int32)
                                · replace H := (gm_ite H).1 c56
                                  refine go_eqI c56 ?_
                                  refine go_tableIn (tgt := 824) dL_law_33 (by decide) (by decide) rfl (by decide) ?_
                                  refine go_aloadn dL_law_824 rfl ?_
                                  refine go_aloadn dL_law_825 rfl ?_
                                  refine go_iloadn dL_law_826 rfl ?_
                                  refine go_iconst (v := (1 : Int32)) dL_law_827 rfl ?_
                                  refine go_iadd dL_law_828 ?_
                                  refine gm_xald dL_law_829 H (fun x118 H => ?_)
                                  refine go_aloadn dL_law_830 rfl ?_
                                  refine go_iloadn dL_law_831 rfl ?_
                                  refine go_iconst (v := (2 : Int32)) dL_law_832 rfl ?_
                                  refine go_iadd dL_law_833 ?_
                                  refine gm_xald dL_law_834 H (fun x119 H => ?_)
                                  refine go_aloadn dL_law_835 rfl ?_
                                  refine go_iloadn dL_law_836 rfl ?_
                                  refine go_iconst (v := (3 : Int32)) dL_law_837 rfl ?_
                                  refine go_iadd dL_law_838 ?_
                                  refine gm_xald dL_law_839 H (fun x120 H => ?_)
                                  refine go_aloadn dL_law_840 rfl ?_
                                  refine go_iloadn dL_law_841 rfl ?_
                                  refine go_iconst (v := (4 : Int32)) dL_law_842 rfl ?_
                                  refine go_iadd dL_law_843 ?_
                                  refine gm_xald dL_law_844 H (fun x121 H => ?_)
                                  refine go_aloadn dL_law_845 rfl ?_
                                  refine go_iloadn dL_law_846 rfl ?_
                                  refine go_iconst (v := (5 : Int32)) dL_law_847 rfl ?_
                                  refine go_iadd dL_law_848 ?_
                                  refine gm_xald dL_law_849 H (fun x122 H => ?_)
                                  obtain ⟨c57, x123, ex123, H⟩ := gm_rc H
                                  refine go_callV (vs := [aI x118, aI x119, aI x120, aI x121, aI x122]) (stk := []) (o1 := (some (aI x123), h)) mk_X11_times sv_L_law_75 cl_X11 rfl dL_law_850 c57 rfl rfl (Nat.le_of_ble_eq_true rfl) (Nat.le_of_ble_eq_true rfl) (ok_X11_times ex123) (show Go M_L_law (some (aI r.1), r.2) 853 [some (aA 1), some (aA v1), some (aA v2), some (aI v3)] [aI x123] h from ?_)
                                  refine go_aloadn dL_law_853 rfl ?_
                                  refine go_aloadn dL_law_854 rfl ?_
                                  refine go_iloadn dL_law_855 rfl ?_
                                  refine go_iconst (v := (1 : Int32)) dL_law_856 rfl ?_
                                  refine go_iadd dL_law_857 ?_
                                  refine gm_xald dL_law_858 H (fun x124 H => ?_)
                                  refine go_aloadn dL_law_859 rfl ?_
                                  refine go_iloadn dL_law_860 rfl ?_
                                  refine go_iconst (v := (2 : Int32)) dL_law_861 rfl ?_
                                  refine go_iadd dL_law_862 ?_
                                  refine gm_xald dL_law_863 H (fun x125 H => ?_)
                                  refine go_aloadn dL_law_864 rfl ?_
                                  refine go_iloadn dL_law_865 rfl ?_
                                  refine go_iconst (v := (3 : Int32)) dL_law_866 rfl ?_
                                  refine go_iadd dL_law_867 ?_
                                  refine gm_xald dL_law_868 H (fun x126 H => ?_)
                                  refine go_aloadn dL_law_869 rfl ?_
                                  refine go_iloadn dL_law_870 rfl ?_
                                  refine go_iconst (v := (4 : Int32)) dL_law_871 rfl ?_
                                  refine go_iadd dL_law_872 ?_
                                  refine gm_xald dL_law_873 H (fun x127 H => ?_)
                                  refine go_aloadn dL_law_874 rfl ?_
                                  refine go_iloadn dL_law_875 rfl ?_
                                  refine go_iconst (v := (5 : Int32)) dL_law_876 rfl ?_
                                  refine go_iadd dL_law_877 ?_
                                  refine gm_xald dL_law_878 H (fun x128 H => ?_)
                                  obtain ⟨c58, x129, ex129, H⟩ := gm_rc H
                                  refine go_callV (vs := [aI x124, aI x125, aI x126, aI x127, aI x128]) (stk := [aI x123]) (o1 := (some (aI x129.1), x129.2)) mk_X12_times sv_L_law_78 cl_X12 rfl dL_law_879 c58 rfl rfl (Nat.le_of_ble_eq_true rfl) (Nat.le_of_ble_eq_true rfl) (ok_X12_times ex129) (show Go M_L_law (some (aI r.1), r.2) 882 [some (aA 1), some (aA v1), some (aA v2), some (aI v3)] [aI x129.1, aI x123] x129.2 from ?_)
                                  refine go_icmp_eq (tgt := 1254) dL_law_882 (by decide) (fun c59 => ?_) (fun c59 => ?_)
                                  · replace H := (gm_ite H).1 c59
                                    exact okj_L_law_1254 v1 v2 v3 x129.2 k Hk H
                                  · replace H := (gm_ite H).2 c59
                                    refine go_iconst (v := (0 : Int32)) dL_law_885 rfl ?_
                                    obtain rfl := Option.some.inj H
                                    exact go_ireturn (x := (0 : Int32)) dL_law_886 (tyI_bool rfl (by decide))
                                · replace H := (gm_ite H).2 c56
                                  by_cases c60 : (x1 &&& (31 : Int32)) = (15 : Int32)
                                  · replace H := (gm_ite H).1 c60
                                    refine go_eqI c60 ?_
                                    refine go_tableIn (tgt := 887) dL_law_33 (by decide) (by decide) rfl (by decide) ?_
                                    refine go_aloadn dL_law_887 rfl ?_
                                    refine go_aloadn dL_law_888 rfl ?_
                                    refine go_iloadn dL_law_889 rfl ?_
                                    refine go_iconst (v := (1 : Int32)) dL_law_890 rfl ?_
                                    refine go_iadd dL_law_891 ?_
                                    refine gm_xald dL_law_892 H (fun x130 H => ?_)
                                    refine go_aloadn dL_law_893 rfl ?_
                                    refine go_iloadn dL_law_894 rfl ?_
                                    refine go_iconst (v := (2 : Int32)) dL_law_895 rfl ?_
                                    refine go_iadd dL_law_896 ?_
                                    refine gm_xald dL_law_897 H (fun x131 H => ?_)
                                    refine go_aloadn dL_law_898 rfl ?_
                                    refine go_iloadn dL_law_899 rfl ?_
                                    refine go_iconst (v := (3 : Int32)) dL_law_900 rfl ?_
                                    refine go_iadd dL_law_901 ?_
                                    refine gm_xald dL_law_902 H (fun x132 H => ?_)
                                    refine go_aloadn dL_law_903 rfl ?_
                                    refine go_iloadn dL_law_904 rfl ?_
                                    refine go_iconst (v := (4 : Int32)) dL_law_905 rfl ?_
                                    refine go_iadd dL_law_906 ?_
                                    refine gm_xald dL_law_907 H (fun x133 H => ?_)
                                    obtain ⟨c61, x134, ex134, H⟩ := gm_rc H
                                    refine go_callV (vs := [aI x130, aI x131, aI x132, aI x133]) (stk := []) (o1 := (some (aI x134.1), x134.2)) mk_X11_found sv_L_law_79 cl_X11 rfl dL_law_908 c61 rfl rfl (Nat.le_of_ble_eq_true rfl) (Nat.le_of_ble_eq_true rfl) (ok_X11_found ex134) (show Go M_L_law (some (aI r.1), r.2) 911 [some (aA 1), some (aA v1), some (aA v2), some (aI v3)] [aI x134.1] x134.2 from ?_)
                                    refine go_aloadn dL_law_911 rfl ?_
                                    refine go_aloadn dL_law_912 rfl ?_
                                    refine go_iloadn dL_law_913 rfl ?_
                                    refine go_iconst (v := (1 : Int32)) dL_law_914 rfl ?_
                                    refine go_iadd dL_law_915 ?_
                                    refine gm_xald dL_law_916 H (fun x135 H => ?_)
                                    refine go_aloadn dL_law_917 rfl ?_
                                    refine go_iloadn dL_law_918 rfl ?_
                                    refine go_iconst (v := (2 : Int32)) dL_law_919 rfl ?_
                                    refine go_iadd dL_law_920 ?_
                                    refine gm_xald dL_law_921 H (fun x136 H => ?_)
                                    refine go_aloadn dL_law_922 rfl ?_
                                    refine go_iloadn dL_law_923 rfl ?_
                                    refine go_iconst (v := (3 : Int32)) dL_law_924 rfl ?_
                                    refine go_iadd dL_law_925 ?_
                                    refine gm_xald dL_law_926 H (fun x137 H => ?_)
                                    refine go_aloadn dL_law_927 rfl ?_
                                    refine go_iloadn dL_law_928 rfl ?_
                                    refine go_iconst (v := (4 : Int32)) dL_law_929 rfl ?_
                                    refine go_iadd dL_law_930 ?_
                                    refine gm_xald dL_law_931 H (fun x138 H => ?_)
                                    obtain ⟨c62, x139, ex139, H⟩ := gm_rc H
                                    refine go_callV (vs := [aI x135, aI x136, aI x137, aI x138]) (stk := [aI x134.1]) (o1 := (some (aI x139.1), x139.2)) mk_X12_found sv_L_law_82 cl_X12 rfl dL_law_932 c62 rfl rfl (Nat.le_of_ble_eq_true rfl) (Nat.le_of_ble_eq_true rfl) (ok_X12_found ex139) (show Go M_L_law (some (aI r.1), r.2) 935 [some (aA 1), some (aA v1), some (aA v2), some (aI v3)] [aI x139.1, aI x134.1] x139.2 from ?_)
                                    refine go_icmp_eq (tgt := 1254) dL_law_935 (by decide) (fun c63 => ?_) (fun c63 => ?_)
                                    · replace H := (gm_ite H).1 c63
                                      exact okj_L_law_1254 v1 v2 v3 x139.2 k Hk H
                                    · replace H := (gm_ite H).2 c63
                                      refine go_iconst (v := (0 : Int32)) dL_law_938 rfl ?_
                                      obtain rfl := Option.some.inj H
                                      exact go_ireturn (x := (0 : Int32)) dL_law_939 (tyI_bool rfl (by decide))
                                  · replace H := (gm_ite H).2 c60
                                    by_cases c64 : (x1 &&& (31 : Int32)) = (16 : Int32)
                                    · replace H := (gm_ite H).1 c64
                                      refine go_eqI c64 ?_
                                      refine go_tableIn (tgt := 940) dL_law_33 (by decide) (by decide) rfl (by decide) ?_
                                      refine go_aloadn dL_law_940 rfl ?_
                                      refine go_aloadn dL_law_941 rfl ?_
                                      refine go_iloadn dL_law_942 rfl ?_
                                      refine go_iconst (v := (1 : Int32)) dL_law_943 rfl ?_
                                      refine go_iadd dL_law_944 ?_
                                      refine gm_xald dL_law_945 H (fun x140 H => ?_)
                                      refine go_aloadn dL_law_946 rfl ?_
                                      refine go_iloadn dL_law_947 rfl ?_
                                      refine go_iconst (v := (2 : Int32)) dL_law_948 rfl ?_
                                      refine go_iadd dL_law_949 ?_
                                      refine gm_xald dL_law_950 H (fun x141 H => ?_)
                                      refine go_aloadn dL_law_951 rfl ?_
                                      refine go_iloadn dL_law_952 rfl ?_
                                      refine go_iconst (v := (3 : Int32)) dL_law_953 rfl ?_
                                      refine go_iadd dL_law_954 ?_
                                      refine gm_xald dL_law_955 H (fun x142 H => ?_)
                                      obtain ⟨c65, x143, ex143, H⟩ := gm_rc H
                                      refine go_callV (vs := [aI x140, aI x141, aI x142]) (stk := []) (o1 := (some (aI x143.1), x143.2)) mk_X11_best sv_L_law_83 cl_X11 rfl dL_law_956 c65 rfl rfl (Nat.le_of_ble_eq_true rfl) (Nat.le_of_ble_eq_true rfl) (ok_X11_best ex143) (show Go M_L_law (some (aI r.1), r.2) 959 [some (aA 1), some (aA v1), some (aA v2), some (aI v3)] [aI x143.1] x143.2 from ?_)
                                      refine go_aloadn dL_law_959 rfl ?_
                                      refine go_aloadn dL_law_960 rfl ?_
                                      refine go_iloadn dL_law_961 rfl ?_
                                      refine go_iconst (v := (1 : Int32)) dL_law_962 rfl ?_
                                      refine go_iadd dL_law_963 ?_
                                      refine gm_xald dL_law_964 H (fun x144 H => ?_)
                                      refine go_aloadn dL_law_965 rfl ?_
                                      refine go_iloadn dL_law_966 rfl ?_
                                      refine go_iconst (v := (2 : Int32)) dL_law_967 rfl ?_
                                      refine go_iadd dL_law_968 ?_
                                      refine gm_xald dL_law_969 H (fun x145 H => ?_)
                                      refine go_aloadn dL_law_970 rfl ?_
                                      refine go_iloadn dL_law_971 rfl ?_
                                      refine go_iconst (v := (3 : Int32)) dL_law_972 rfl ?_
                                      refine go_iadd dL_law_973 ?_
                                      refine gm_xald dL_law_974 H (fun x146 H => ?_)
                                      obtain ⟨c66, x147, ex147, H⟩ := gm_rc H
                                      refine go_callV (vs := [aI x144, aI x145, aI x146]) (stk := [aI x143.1]) (o1 := (some (aI x147.1), x147.2)) mk_X12_best sv_L_law_86 cl_X12 rfl dL_law_975 c66 rfl rfl (Nat.le_of_ble_eq_true rfl) (Nat.le_of_ble_eq_true rfl) (ok_X12_best ex147) (show Go M_L_law (some (aI r.1), r.2) 978 [some (aA 1), some (aA v1), some (aA v2), some (aI v3)] [aI x147.1, aI x143.1] x147.2 from ?_)
                                      refine go_icmp_eq (tgt := 1254) dL_law_978 (by decide) (fun c67 => ?_) (fun c67 => ?_)
                                      · replace H := (gm_ite H).1 c67
                                        exact okj_L_law_1254 v1 v2 v3 x147.2 k Hk H
                                      · replace H := (gm_ite H).2 c67
                                        refine go_iconst (v := (0 : Int32)) dL_law_981 rfl ?_
                                        obtain rfl := Option.some.inj H
                                        exact go_ireturn (x := (0 : Int32)) dL_law_982 (tyI_bool rfl (by decide))
                                    · replace H := (gm_ite H).2 c64
                                      by_cases c68 : (x1 &&& (31 : Int32)) = (17 : Int32)
                                      · replace H := (gm_ite H).1 c68
                                        refine go_eqI c68 ?_
                                        refine go_tableIn (tgt := 983) dL_law_33 (by decide) (by decide) rfl (by decide) ?_
                                        refine go_aloadn dL_law_983 rfl ?_
                                        refine go_aloadn dL_law_984 rfl ?_
                                        refine go_iloadn dL_law_985 rfl ?_
                                        refine go_iconst (v := (1 : Int32)) dL_law_986 rfl ?_
                                        refine go_iadd dL_law_987 ?_
                                        refine gm_xald dL_law_988 H (fun x148 H => ?_)
                                        refine go_aloadn dL_law_989 rfl ?_
                                        refine go_iloadn dL_law_990 rfl ?_
                                        refine go_iconst (v := (2 : Int32)) dL_law_991 rfl ?_
                                        refine go_iadd dL_law_992 ?_
                                        refine gm_xald dL_law_993 H (fun x149 H => ?_)
                                        refine go_aloadn dL_law_994 rfl ?_
                                        refine go_iloadn dL_law_995 rfl ?_
                                        refine go_iconst (v := (3 : Int32)) dL_law_996 rfl ?_
                                        refine go_iadd dL_law_997 ?_
                                        refine gm_xald dL_law_998 H (fun x150 H => ?_)
                                        refine go_aloadn dL_law_999 rfl ?_
                                        refine go_iloadn dL_law_1000 rfl ?_
                                        refine go_iconst (v := (4 : Int32)) dL_law_1001 rfl ?_
                                        refine go_iadd dL_law_1002 ?_
                                        refine gm_xald dL_law_1003 H (fun x151 H => ?_)
                                        obtain ⟨c69, x152, ex152, H⟩ := gm_rc H
                                        refine go_callV (vs := [aI x148, aI x149, aI x150, aI x151]) (stk := []) (o1 := (some (aI x152.1), x152.2)) mk_X11_implies sv_L_law_87 cl_X11 rfl dL_law_1004 c69 rfl rfl (Nat.le_of_ble_eq_true rfl) (Nat.le_of_ble_eq_true rfl) (ok_X11_implies ex152) (show Go M_L_law (some (aI r.1), r.2) 1007 [some (aA 1), some (aA v1), some (aA v2), some (aI v3)] [aI x152.1] x152.2 from ?_)
                                        refine go_aloadn dL_law_1007 rfl ?_
                                        refine go_aloadn dL_law_1008 rfl ?_
                                        refine go_iloadn dL_law_1009 rfl ?_
                                        refine go_iconst (v := (1 : Int32)) dL_law_1010 rfl ?_
                                        refine go_iadd dL_law_1011 ?_
                                        refine gm_xald dL_law_1012 H (fun x153 H => ?_)
                                        refine go_aloadn dL_law_1013 rfl ?_
                                        refine go_iloadn dL_law_1014 rfl ?_
                                        refine go_iconst (v := (2 : Int32)) dL_law_1015 rfl ?_
                                        refine go_iadd dL_law_1016 ?_
                                        refine gm_xald dL_law_1017 H (fun x154 H => ?_)
                                        refine go_aloadn dL_law_1018 rfl ?_
                                        refine go_iloadn dL_law_1019 rfl ?_
                                        refine go_iconst (v := (3 : Int32)) dL_law_1020 rfl ?_
                                        refine go_iadd dL_law_1021 ?_
                                        refine gm_xald dL_law_1022 H (fun x155 H => ?_)
                                        refine go_aloadn dL_law_1023 rfl ?_
                                        refine go_iloadn dL_law_1024 rfl ?_
                                        refine go_iconst (v := (4 : Int32)) dL_law_1025 rfl ?_
                                        refine go_iadd dL_law_1026 ?_
                                        refine gm_xald dL_law_1027 H (fun x156 H => ?_)
                                        obtain ⟨c70, x157, ex157, H⟩ := gm_rc H
                                        refine go_callV (vs := [aI x153, aI x154, aI x155, aI x156]) (stk := [aI x152.1]) (o1 := (some (aI x157.1), x157.2)) mk_X12_implies sv_L_law_90 cl_X12 rfl dL_law_1028 c70 rfl rfl (Nat.le_of_ble_eq_true rfl) (Nat.le_of_ble_eq_true rfl) (ok_X12_implies ex157) (show Go M_L_law (some (aI r.1), r.2) 1031 [some (aA 1), some (aA v1), some (aA v2), some (aI v3)] [aI x157.1, aI x152.1] x157.2 from ?_)
                                        refine go_icmp_eq (tgt := 1254) dL_law_1031 (by decide) (fun c71 => ?_) (fun c71 => ?_)
                                        · replace H := (gm_ite H).1 c71
                                          exact okj_L_law_1254 v1 v2 v3 x157.2 k Hk H
                                        · replace H := (gm_ite H).2 c71
                                          refine go_iconst (v := (0 : Int32)) dL_law_1034 rfl ?_
                                          obtain rfl := Option.some.inj H
                                          exact go_ireturn (x := (0 : Int32)) dL_law_1035 (tyI_bool rfl (by decide))
                                      · replace H := (gm_ite H).2 c68
                                        by_cases c72 : (x1 &&& (31 : Int32)) = (18 : Int32)
                                        · replace H := (gm_ite H).1 c72
                                          refine go_eqI c72 ?_
                                          refine go_tableIn (tgt := 1036) dL_law_33 (by decide) (by decide) rfl (by decide) ?_
                                          refine go_aloadn dL_law_1036 rfl ?_
                                          refine go_aloadn dL_law_1037 rfl ?_
                                          refine go_iloadn dL_law_1038 rfl ?_
                                          refine go_iconst (v := (1 : Int32)) dL_law_1039 rfl ?_
                                          refine go_iadd dL_law_1040 ?_
                                          refine gm_xald dL_law_1041 H (fun x158 H => ?_)
                                          refine go_aloadn dL_law_1042 rfl ?_
                                          refine go_iloadn dL_law_1043 rfl ?_
                                          refine go_iconst (v := (2 : Int32)) dL_law_1044 rfl ?_
                                          refine go_iadd dL_law_1045 ?_
                                          refine gm_xald dL_law_1046 H (fun x159 H => ?_)
                                          refine go_aloadn dL_law_1047 rfl ?_
                                          refine go_iloadn dL_law_1048 rfl ?_
                                          refine go_iconst (v := (3 : Int32)) dL_law_1049 rfl ?_
                                          refine go_iadd dL_law_1050 ?_
                                          refine gm_xald dL_law_1051 H (fun x160 H => ?_)
                                          obtain ⟨c73, x161, ex161, H⟩ := gm_rc H
                                          refine go_callV (vs := [aI x158, aI x159, aI x160]) (stk := []) (o1 := (some (aI x161), h)) mk_X11_fact sv_L_law_91 cl_X11 rfl dL_law_1052 c73 rfl rfl (Nat.le_of_ble_eq_true rfl) (Nat.le_of_ble_eq_true rfl) (ok_X11_fact ex161) (show Go M_L_law (some (aI r.1), r.2) 1055 [some (aA 1), some (aA v1), some (aA v2), some (aI v3)] [aI x161] h from ?_)
                                          refine go_aloadn dL_law_1055 rfl ?_
                                          refine go_aloadn dL_law_1056 rfl ?_
                                          refine go_iloadn dL_law_1057 rfl ?_
                                          refine go_iconst (v := (1 : Int32)) dL_law_1058 rfl ?_
                                          refine go_iadd dL_law_1059 ?_
                                          refine gm_xald dL_law_1060 H (fun x162 H => ?_)
                                          refine go_aloadn dL_law_1061 rfl ?_
                                          refine go_iloadn dL_law_1062 rfl ?_
                                          refine go_iconst (v := (2 : Int32)) dL_law_1063 rfl ?_
                                          refine go_iadd dL_law_1064 ?_
                                          refine gm_xald dL_law_1065 H (fun x163 H => ?_)
                                          refine go_aloadn dL_law_1066 rfl ?_
                                          refine go_iloadn dL_law_1067 rfl ?_
                                          refine go_iconst (v := (3 : Int32)) dL_law_1068 rfl ?_
                                          refine go_iadd dL_law_1069 ?_
                                          refine gm_xald dL_law_1070 H (fun x164 H => ?_)
                                          obtain ⟨c74, x165, ex165, H⟩ := gm_rc H
                                          refine go_callV (vs := [aI x162, aI x163, aI x164]) (stk := [aI x161]) (o1 := (some (aI x165.1), x165.2)) mk_X12_fact sv_L_law_94 cl_X12 rfl dL_law_1071 c74 rfl rfl (Nat.le_of_ble_eq_true rfl) (Nat.le_of_ble_eq_true rfl) (ok_X12_fact ex165) (show Go M_L_law (some (aI r.1), r.2) 1074 [some (aA 1), some (aA v1), some (aA v2), some (aI v3)] [aI x165.1, aI x161] x165.2 from ?_)
                                          refine go_icmp_eq (tgt := 1254) dL_law_1074 (by decide) (fun c75 => ?_) (fun c75 => ?_)
                                          · replace H := (gm_ite H).1 c75
                                            exact okj_L_law_1254 v1 v2 v3 x165.2 k Hk H
                                          · replace H := (gm_ite H).2 c75
                                            refine go_iconst (v := (0 : Int32)) dL_law_1077 rfl ?_
                                            obtain rfl := Option.some.inj H
                                            exact go_ireturn (x := (0 : Int32)) dL_law_1078 (tyI_bool rfl (by decide))
                                        · replace H := (gm_ite H).2 c72
                                          by_cases c76 : (x1 &&& (31 : Int32)) = (19 : Int32)
                                          · replace H := (gm_ite H).1 c76
                                            refine go_eqI c76 ?_
                                            refine go_tableIn (tgt := 1079) dL_law_33 (by decide) (by decide) rfl (by decide) ?_
                                            refine go_aloadn dL_law_1079 rfl ?_
                                            refine go_aloadn dL_law_1080 rfl ?_
                                            refine go_iloadn dL_law_1081 rfl ?_
                                            refine go_iconst (v := (1 : Int32)) dL_law_1082 rfl ?_
                                            refine go_iadd dL_law_1083 ?_
                                            refine gm_xald dL_law_1084 H (fun x166 H => ?_)
                                            refine go_aloadn dL_law_1085 rfl ?_
                                            refine go_iloadn dL_law_1086 rfl ?_
                                            refine go_iconst (v := (2 : Int32)) dL_law_1087 rfl ?_
                                            refine go_iadd dL_law_1088 ?_
                                            refine gm_xald dL_law_1089 H (fun x167 H => ?_)
                                            refine go_aloadn dL_law_1090 rfl ?_
                                            refine go_iloadn dL_law_1091 rfl ?_
                                            refine go_iconst (v := (3 : Int32)) dL_law_1092 rfl ?_
                                            refine go_iadd dL_law_1093 ?_
                                            refine gm_xald dL_law_1094 H (fun x168 H => ?_)
                                            obtain ⟨c77, x169, ex169, H⟩ := gm_rc H
                                            refine go_callV (vs := [aI x166, aI x167, aI x168]) (stk := []) (o1 := (some (aI x169), h)) mk_X11_fits sv_L_law_95 cl_X11 rfl dL_law_1095 c77 rfl rfl (Nat.le_of_ble_eq_true rfl) (Nat.le_of_ble_eq_true rfl) (ok_X11_fits ex169) (show Go M_L_law (some (aI r.1), r.2) 1098 [some (aA 1), some (aA v1), some (aA v2), some (aI v3)] [aI x169] h from ?_)
                                            refine go_aloadn dL_law_1098 rfl ?_
                                            refine go_aloadn dL_law_1099 rfl ?_
                                            refine go_iloadn dL_law_1100 rfl ?_
                                            refine go_iconst (v := (1 : Int32)) dL_law_1101 rfl ?_
                                            refine go_iadd dL_law_1102 ?_
                                            refine gm_xald dL_law_1103 H (fun x170 H => ?_)
                                            refine go_aloadn dL_law_1104 rfl ?_
                                            refine go_iloadn dL_law_1105 rfl ?_
                                            refine go_iconst (v := (2 : Int32)) dL_law_1106 rfl ?_
                                            refine go_iadd dL_law_1107 ?_
                                            refine gm_xald dL_law_1108 H (fun x171 H => ?_)
                                            refine go_aloadn dL_law_1109 rfl ?_
                                            refine go_iloadn dL_law_1110 rfl ?_
                                            refine go_iconst (v := (3 : Int32)) dL_law_1111 rfl ?_
                                            refine go_iadd dL_law_1112 ?_
                                            refine gm_xald dL_law_1113 H (fun x172 H => ?_)
                                            obtain ⟨c78, x173, ex173, H⟩ := gm_rc H
                                            refine go_callV (vs := [aI x170, aI x171, aI x172]) (stk := [aI x169]) (o1 := (some (aI x173.1), x173.2)) mk_X12_fits sv_L_law_98 cl_X12 rfl dL_law_1114 c78 rfl rfl (Nat.le_of_ble_eq_true rfl) (Nat.le_of_ble_eq_true rfl) (ok_X12_fits ex173) (show Go M_L_law (some (aI r.1), r.2) 1117 [some (aA 1), some (aA v1), some (aA v2), some (aI v3)] [aI x173.1, aI x169] x173.2 from ?_)
                                            refine go_icmp_eq (tgt := 1254) dL_law_1117 (by decide) (fun c79 => ?_) (fun c79 => ?_)
                                            · replace H := (gm_ite H).1 c79
                                              exact okj_L_law_1254 v1 v2 v3 x173.2 k Hk H
                                            · replace H := (gm_ite H).2 c79
                                              refine go_iconst (v := (0 : Int32)) dL_law_1120 rfl ?_
                                              obtain rfl := Option.some.inj H
                                              exact go_ireturn (x := (0 : Int32)) dL_law_1121 (tyI_bool rfl (by decide))
                                          · replace H := (gm_ite H).2 c76
                                            by_cases c80 : (x1 &&& (31 : Int32)) = (20 : Int32)
                                            · replace H := (gm_ite H).1 c80
                                              refine go_eqI c80 ?_
                                              refine go_tableIn (tgt := 1122) dL_law_33 (by decide) (by decide) rfl (by decide) ?_
                                              refine go_aloadn dL_law_1122 rfl ?_
                                              refine go_aloadn dL_law_1123 rfl ?_
                                              refine go_iloadn dL_law_1124 rfl ?_
                                              refine go_iconst (v := (1 : Int32)) dL_law_1125 rfl ?_
                                              refine go_iadd dL_law_1126 ?_
                                              refine gm_xald dL_law_1127 H (fun x174 H => ?_)
                                              refine go_aloadn dL_law_1128 rfl ?_
                                              refine go_iloadn dL_law_1129 rfl ?_
                                              refine go_iconst (v := (2 : Int32)) dL_law_1130 rfl ?_
                                              refine go_iadd dL_law_1131 ?_
                                              refine gm_xald dL_law_1132 H (fun x175 H => ?_)
                                              refine go_aloadn dL_law_1133 rfl ?_
                                              refine go_iloadn dL_law_1134 rfl ?_
                                              refine go_iconst (v := (3 : Int32)) dL_law_1135 rfl ?_
                                              refine go_iadd dL_law_1136 ?_
                                              refine gm_xald dL_law_1137 H (fun x176 H => ?_)
                                              refine go_aloadn dL_law_1138 rfl ?_
                                              refine go_iloadn dL_law_1139 rfl ?_
                                              refine go_iconst (v := (4 : Int32)) dL_law_1140 rfl ?_
                                              refine go_iadd dL_law_1141 ?_
                                              refine gm_xald dL_law_1142 H (fun x177 H => ?_)
                                              refine go_aloadn dL_law_1143 rfl ?_
                                              refine go_iloadn dL_law_1144 rfl ?_
                                              refine go_iconst (v := (5 : Int32)) dL_law_1145 rfl ?_
                                              refine go_iadd dL_law_1146 ?_
                                              refine gm_xald dL_law_1147 H (fun x178 H => ?_)
                                              obtain ⟨c81, x179, ex179, H⟩ := gm_rc H
                                              refine go_callV (vs := [aI x174, aI x175, aI x176, aI x177, aI x178]) (stk := []) (o1 := (some (aI x179.1), x179.2)) mk_X11_drawn sv_L_law_99 cl_X11 rfl dL_law_1148 c81 rfl rfl (Nat.le_of_ble_eq_true rfl) (Nat.le_of_ble_eq_true rfl) (ok_X11_drawn ex179) (show Go M_L_law (some (aI r.1), r.2) 1151 [some (aA 1), some (aA v1), some (aA v2), some (aI v3)] [aI x179.1] x179.2 from ?_)
                                              refine go_aloadn dL_law_1151 rfl ?_
                                              refine go_aloadn dL_law_1152 rfl ?_
                                              refine go_iloadn dL_law_1153 rfl ?_
                                              refine go_iconst (v := (1 : Int32)) dL_law_1154 rfl ?_
                                              refine go_iadd dL_law_1155 ?_
                                              refine gm_xald dL_law_1156 H (fun x180 H => ?_)
                                              refine go_aloadn dL_law_1157 rfl ?_
                                              refine go_iloadn dL_law_1158 rfl ?_
                                              refine go_iconst (v := (2 : Int32)) dL_law_1159 rfl ?_
                                              refine go_iadd dL_law_1160 ?_
                                              refine gm_xald dL_law_1161 H (fun x181 H => ?_)
                                              refine go_aloadn dL_law_1162 rfl ?_
                                              refine go_iloadn dL_law_1163 rfl ?_
                                              refine go_iconst (v := (3 : Int32)) dL_law_1164 rfl ?_
                                              refine go_iadd dL_law_1165 ?_
                                              refine gm_xald dL_law_1166 H (fun x182 H => ?_)
                                              refine go_aloadn dL_law_1167 rfl ?_
                                              refine go_iloadn dL_law_1168 rfl ?_
                                              refine go_iconst (v := (4 : Int32)) dL_law_1169 rfl ?_
                                              refine go_iadd dL_law_1170 ?_
                                              refine gm_xald dL_law_1171 H (fun x183 H => ?_)
                                              refine go_aloadn dL_law_1172 rfl ?_
                                              refine go_iloadn dL_law_1173 rfl ?_
                                              refine go_iconst (v := (5 : Int32)) dL_law_1174 rfl ?_
                                              refine go_iadd dL_law_1175 ?_
                                              refine gm_xald dL_law_1176 H (fun x184 H => ?_)
                                              obtain ⟨c82, x185, ex185, H⟩ := gm_rc H
                                              refine go_callV (vs := [aI x180, aI x181, aI x182, aI x183, aI x184]) (stk := [aI x179.1]) (o1 := (some (aI x185.1), x185.2)) mk_X12_drawn sv_L_law_102 cl_X12 rfl dL_law_1177 c82 rfl rfl (Nat.le_of_ble_eq_true rfl) (Nat.le_of_ble_eq_true rfl) (ok_X12_drawn ex185) (show Go M_L_law (some (aI r.1), r.2) 1180 [some (aA 1), some (aA v1), some (aA v2), some (aI v3)] [aI x185.1, aI x179.1] x185.2 from ?_)
                                              refine go_icmp_eq (tgt := 1254) dL_law_1180 (by decide) (fun c83 => ?_) (fun c83 => ?_)
                                              · replace H := (gm_ite H).1 c83
                                                exact okj_L_law_1254 v1 v2 v3 x185.2 k Hk H
                                              · replace H := (gm_ite H).2 c83
                                                refine go_iconst (v := (0 : Int32)) dL_law_1183 rfl ?_
                                                obtain rfl := Option.some.inj H
                                                exact go_ireturn (x := (0 : Int32)) dL_law_1184 (tyI_bool rfl (by decide))
                                            · replace H := (gm_ite H).2 c80
                                              by_cases c84 : (x1 &&& (31 : Int32)) = (21 : Int32)
                                              · replace H := (gm_ite H).1 c84
                                                refine go_eqI c84 ?_
                                                refine go_tableIn (tgt := 1185) dL_law_33 (by decide) (by decide) rfl (by decide) ?_
                                                refine go_aloadn dL_law_1185 rfl ?_
                                                refine go_aloadn dL_law_1186 rfl ?_
                                                refine go_iloadn dL_law_1187 rfl ?_
                                                refine go_iconst (v := (1 : Int32)) dL_law_1188 rfl ?_
                                                refine go_iadd dL_law_1189 ?_
                                                refine gm_xald dL_law_1190 H (fun x186 H => ?_)
                                                obtain ⟨c85, x187, ex187, H⟩ := gm_rc H
                                                refine go_callV (vs := [aI x186]) (stk := []) (o1 := (some (aI x187), h)) mk_X11_count sv_L_law_103 cl_X11 rfl dL_law_1191 c85 rfl rfl (Nat.le_of_ble_eq_true rfl) (Nat.le_of_ble_eq_true rfl) (ok_X11_count ex187) (show Go M_L_law (some (aI r.1), r.2) 1194 [some (aA 1), some (aA v1), some (aA v2), some (aI v3)] [aI x187] h from ?_)
                                                refine go_aloadn dL_law_1194 rfl ?_
                                                refine go_aloadn dL_law_1195 rfl ?_
                                                refine go_iloadn dL_law_1196 rfl ?_
                                                refine go_iconst (v := (1 : Int32)) dL_law_1197 rfl ?_
                                                refine go_iadd dL_law_1198 ?_
                                                refine gm_xald dL_law_1199 H (fun x188 H => ?_)
                                                obtain ⟨c86, x189, ex189, H⟩ := gm_rc H
                                                refine go_callV (vs := [aI x188]) (stk := [aI x187]) (o1 := (some (aI x189.1), x189.2)) mk_X12_count sv_L_law_106 cl_X12 rfl dL_law_1200 c86 rfl rfl (Nat.le_of_ble_eq_true rfl) (Nat.le_of_ble_eq_true rfl) (ok_X12_count ex189) (show Go M_L_law (some (aI r.1), r.2) 1203 [some (aA 1), some (aA v1), some (aA v2), some (aI v3)] [aI x189.1, aI x187] x189.2 from ?_)
                                                refine go_icmp_eq (tgt := 1254) dL_law_1203 (by decide) (fun c87 => ?_) (fun c87 => ?_)
                                                · replace H := (gm_ite H).1 c87
                                                  exact okj_L_law_1254 v1 v2 v3 x189.2 k Hk H
                                                · replace H := (gm_ite H).2 c87
                                                  refine go_iconst (v := (0 : Int32)) dL_law_1206 rfl ?_
                                                  obtain rfl := Option.some.inj H
                                                  exact go_ireturn (x := (0 : Int32)) dL_law_1207 (tyI_bool rfl (by decide))
                                              · replace H := (gm_ite H).2 c84
                                                by_cases c88 : (x1 &&& (31 : Int32)) = (22 : Int32)
                                                · replace H := (gm_ite H).1 c88
                                                  refine go_eqI c88 ?_
                                                  refine go_tableIn (tgt := 1208) dL_law_33 (by decide) (by decide) rfl (by decide) ?_
                                                  refine go_aloadn dL_law_1208 rfl ?_
                                                  refine go_aloadn dL_law_1209 rfl ?_
                                                  refine go_iloadn dL_law_1210 rfl ?_
                                                  refine go_iconst (v := (1 : Int32)) dL_law_1211 rfl ?_
                                                  refine go_iadd dL_law_1212 ?_
                                                  refine gm_xald dL_law_1213 H (fun x190 H => ?_)
                                                  obtain ⟨c89, x191, ex191, H⟩ := gm_rc H
                                                  refine go_callV (vs := [aI x190]) (stk := []) (o1 := (some (aI x191.1), x191.2)) mk_X11_image sv_L_law_107 cl_X11 rfl dL_law_1214 c89 rfl rfl (Nat.le_of_ble_eq_true rfl) (Nat.le_of_ble_eq_true rfl) (ok_X11_image ex191) (show Go M_L_law (some (aI r.1), r.2) 1217 [some (aA 1), some (aA v1), some (aA v2), some (aI v3)] [aI x191.1] x191.2 from ?_)
                                                  refine go_aloadn dL_law_1217 rfl ?_
                                                  refine go_aloadn dL_law_1218 rfl ?_
                                                  refine go_iloadn dL_law_1219 rfl ?_
                                                  refine go_iconst (v := (1 : Int32)) dL_law_1220 rfl ?_
                                                  refine go_iadd dL_law_1221 ?_
                                                  refine gm_xald dL_law_1222 H (fun x192 H => ?_)
                                                  obtain ⟨c90, x193, ex193, H⟩ := gm_rc H
                                                  refine go_callV (vs := [aI x192]) (stk := [aI x191.1]) (o1 := (some (aI x193.1), x193.2)) mk_X12_image sv_L_law_111 cl_X12 rfl dL_law_1223 c90 rfl rfl (Nat.le_of_ble_eq_true rfl) (Nat.le_of_ble_eq_true rfl) (ok_X12_image ex193) (show Go M_L_law (some (aI r.1), r.2) 1226 [some (aA 1), some (aA v1), some (aA v2), some (aI v3)] [aI x193.1, aI x191.1] x193.2 from ?_)
                                                  refine go_icmp_eq (tgt := 1254) dL_law_1226 (by decide) (fun c91 => ?_) (fun c91 => ?_)
                                                  · replace H := (gm_ite H).1 c91
                                                    exact okj_L_law_1254 v1 v2 v3 x193.2 k Hk H
                                                  · replace H := (gm_ite H).2 c91
                                                    refine go_iconst (v := (0 : Int32)) dL_law_1229 rfl ?_
                                                    obtain rfl := Option.some.inj H
                                                    exact go_ireturn (x := (0 : Int32)) dL_law_1230 (tyI_bool rfl (by decide))
                                                · replace H := (gm_ite H).2 c88
                                                  by_cases c92 : (x1 &&& (31 : Int32)) = (23 : Int32)
                                                  · replace H := (gm_ite H).1 c92
                                                    refine go_eqI c92 ?_
                                                    refine go_tableIn (tgt := 1231) dL_law_33 (by decide) (by decide) rfl (by decide) ?_
                                                    refine go_aloadn dL_law_1231 rfl ?_
                                                    refine go_aloadn dL_law_1232 rfl ?_
                                                    refine go_iloadn dL_law_1233 rfl ?_
                                                    refine go_iconst (v := (1 : Int32)) dL_law_1234 rfl ?_
                                                    refine go_iadd dL_law_1235 ?_
                                                    refine gm_xald dL_law_1236 H (fun x194 H => ?_)
                                                    obtain ⟨c93, x195, ex195, H⟩ := gm_rc H
                                                    refine go_callV (vs := [aI x194]) (stk := []) (o1 := (some (aI x195.1), x195.2)) mk_X11_again sv_L_law_112 cl_X11 rfl dL_law_1237 c93 rfl rfl (Nat.le_of_ble_eq_true rfl) (Nat.le_of_ble_eq_true rfl) (ok_X11_again ex195) (show Go M_L_law (some (aI r.1), r.2) 1240 [some (aA 1), some (aA v1), some (aA v2), some (aI v3)] [aI x195.1] x195.2 from ?_)
                                                    refine go_aloadn dL_law_1240 rfl ?_
                                                    refine go_aloadn dL_law_1241 rfl ?_
                                                    refine go_iloadn dL_law_1242 rfl ?_
                                                    refine go_iconst (v := (1 : Int32)) dL_law_1243 rfl ?_
                                                    refine go_iadd dL_law_1244 ?_
                                                    refine gm_xald dL_law_1245 H (fun x196 H => ?_)
                                                    obtain ⟨c94, x197, ex197, H⟩ := gm_rc H
                                                    refine go_callV (vs := [aI x196]) (stk := [aI x195.1]) (o1 := (some (aI x197.1), x197.2)) mk_X12_again sv_L_law_115 cl_X12 rfl dL_law_1246 c94 rfl rfl (Nat.le_of_ble_eq_true rfl) (Nat.le_of_ble_eq_true rfl) (ok_X12_again ex197) (show Go M_L_law (some (aI r.1), r.2) 1249 [some (aA 1), some (aA v1), some (aA v2), some (aI v3)] [aI x197.1, aI x195.1] x197.2 from ?_)
                                                    refine go_icmp_eq (tgt := 1254) dL_law_1249 (by decide) (fun c95 => ?_) (fun c95 => ?_)
                                                    · replace H := (gm_ite H).1 c95
                                                      exact okj_L_law_1254 v1 v2 v3 x197.2 k Hk H
                                                    · replace H := (gm_ite H).2 c95
                                                      refine go_iconst (v := (0 : Int32)) dL_law_1252 rfl ?_
                                                      obtain rfl := Option.some.inj H
                                                      exact go_ireturn (x := (0 : Int32)) dL_law_1253 (tyI_bool rfl (by decide))
                                                  · replace H := (gm_ite H).2 c92
                                                    refine go_tableOut (tgt := 1254) dL_law_33 (sw_out (fun i h1 h2 e => ?_)) (by decide) ?_
                                                    · have h3 : i = 0 ∨ i = 1 ∨ i = 2 ∨ i = 3 ∨ i = 4 ∨ i = 5 ∨ i = 6 ∨ i = 7 ∨ i = 8 ∨ i = 9 ∨ i = 10 ∨ i = 11 ∨ i = 12 ∨ i = 13 ∨ i = 14 ∨ i = 15 ∨ i = 16 ∨ i = 17 ∨ i = 18 ∨ i = 19 ∨ i = 20 ∨ i = 21 ∨ i = 22 ∨ i = 23 := by omega
                                                      rcases h3 with rfl | rfl | rfl | rfl | rfl | rfl | rfl | rfl | rfl | rfl | rfl | rfl | rfl | rfl | rfl | rfl | rfl | rfl | rfl | rfl | rfl | rfl | rfl | rfl
                                                      · exact sw_ne c2 (by decide) e
                                                      · exact sw_ne c6 (by decide) e
                                                      · exact sw_ne c10 (by decide) e
                                                      · exact sw_ne c14 (by decide) e
                                                      · exact sw_ne c18 (by decide) e
                                                      · exact sw_ne c22 (by decide) e
                                                      · exact sw_ne c26 (by decide) e
                                                      · exact sw_ne c30 (by decide) e
                                                      · exact sw_ne c34 (by decide) e
                                                      · exact sw_ne c38 (by decide) e
                                                      · exact sw_ne c42 (by decide) e
                                                      · exact sw_ne c46 (by decide) e
                                                      · exact sw_ne c50 (by decide) e
                                                      · exact sw_ne c54 (by decide) e
                                                      · exact sw_ne c56 (by decide) e
                                                      · exact sw_ne c60 (by decide) e
                                                      · exact sw_ne c64 (by decide) e
                                                      · exact sw_ne c68 (by decide) e
                                                      · exact sw_ne c72 (by decide) e
                                                      · exact sw_ne c76 (by decide) e
                                                      · exact sw_ne c80 (by decide) e
                                                      · exact sw_ne c84 (by decide) e
                                                      · exact sw_ne c88 (by decide) e
                                                      · exact sw_ne c92 (by decide) e
                                                    · skip
                                                      exact okj_L_law_1254 v1 v2 v3 h k Hk H
def l_L_law_18 (v1 : Nat) (v2 : Nat) (v3 : Int32) (h : Hp) : Option (Int32 × Hp) := loopK FUEL (fun (k : Int32 × Hp → Option (Int32 × Hp)) (s : Int32 × Hp) => b_L_law_18 v1 v2 (fun v3q hq => k (v3q, hq)) s.1 s.2) (v3, h)
theorem okl_L_law_18 {r : (Int32 × Hp)} (v1 : Nat) (v2 : Nat) (v3 : Int32) (h : Hp) (H : l_L_law_18 v1 v2 v3 h = some r) : Go M_L_law (some (aI r.1), r.2) 18 [some (aA 1), some (aA v1), some (aA v2), some (aI v3)] [] h := by
  unfold l_L_law_18 at H
  exact go_loop (σ := Int32 × Hp) (body := (fun (k : Int32 × Hp → Option (Int32 × Hp)) (s : Int32 × Hp) => b_L_law_18 v1 v2 (fun v3q hq => k (v3q, hq)) s.1 s.2)) (fun s => [some (aA 1), some (aA v1), some (aA v2), some (aI s.1)]) (fun s => s.2) (fun k s Hk H => okb_L_law_18 v1 v2 (fun v3q hq => k (v3q, hq)) s.1 s.2  (fun v3q hq H => Hk (v3q, hq) H) H) FUEL (v3, h) H
def m_L_law  (h : Hp) : Option (Int32 × Hp) :=
  (nw h 11 6).bind fun hh1 => (rc hh1 (hTop h) 11 (m_X11_init (hTop h) hh1)).bind fun x1 => (nw x1 12 37).bind fun hh2 => (rc hh2 (hTop x1) 12 (m_X12_init (hTop x1) hh2)).bind fun x2 => l_L_law_18 (hTop h) (hTop x1) (0 : Int32) x2
set_option maxRecDepth 20000 in
theorem ok_L_law {r : (Int32 × Hp)}  {h : Hp} (H : m_L_law h = some r) : Ev M_L_law [aA 1] h (some (aI r.1), r.2) := by
  show Go M_L_law (some (aI r.1), r.2) 0 [some (aA 1), none, none, none] [] h
  unfold m_L_law at H
  refine gm_new cl_X11 dv_X11 tw159 dL_law_0 H (fun hh1 H => ?_)
  refine go_dupA dL_law_3 ?_
  obtain ⟨c1, x1, ex1, H⟩ := gm_rc H
  refine go_callI (vs := []) (stk := [aA (hTop h)]) (o1 := (none, x1)) mk_X11_init si_L_law_9 dL_law_4 c1 (by decide) rfl rfl (Nat.le_of_ble_eq_true rfl) (Nat.le_of_ble_eq_true rfl) (ok_X11_init ex1) (show Go M_L_law (some (aI r.1), r.2) 7 [some (aA 1), none, none, none] [aA (hTop h)] x1 from ?_)
  refine go_astoren (loc2 := [some (aA 1), some (aA (hTop h)), none, none]) dL_law_7 rfl (by decide) rfl ?_
  refine gm_new cl_X12 dv_X12 tw1367 dL_law_8 H (fun hh2 H => ?_)
  refine go_dupA dL_law_11 ?_
  obtain ⟨c2, x2, ex2, H⟩ := gm_rc H
  refine go_callI (vs := []) (stk := [aA (hTop x1)]) (o1 := (none, x2)) mk_X12_init si_L_law_12 dL_law_12 c2 (by decide) rfl rfl (Nat.le_of_ble_eq_true rfl) (Nat.le_of_ble_eq_true rfl) (ok_X12_init ex2) (show Go M_L_law (some (aI r.1), r.2) 15 [some (aA 1), some (aA (hTop h)), none, none] [aA (hTop x1)] x2 from ?_)
  refine go_astoren (loc2 := [some (aA 1), some (aA (hTop h)), some (aA (hTop x1)), none]) dL_law_15 rfl (by decide) rfl ?_
  refine go_iconst (v := (0 : Int32)) dL_law_16 rfl ?_
  refine go_istoren (loc2 := [some (aA 1), some (aA (hTop h)), some (aA (hTop x1)), some (aI (0 : Int32))]) dL_law_17 rfl (by decide) rfl ?_
  exact okl_L_law_18 (hTop h) (hTop x1) (0 : Int32) x2 H
