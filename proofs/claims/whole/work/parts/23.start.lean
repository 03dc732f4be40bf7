/-! THE CLAIM OUT OF ONE WALK OF THE LAW'S BODY. Your part is whole_start (and what it stands on); all else here is the same for every law, but numbers. -/
def R_law : String := "VersionSearchLaw"
def lw_P (b : Addr) (xs : List Int32) (args : Array Value) (s : State) : Prop := args = #[.ref b] ∧ s.IntsAt b xs ∧ xs.length ≤ 3584 ∧ (Jvm.Cond.and given_1 narrow_1).before args s = true
def lw_Q (_ : Array Value) (s : State) (o : Outcome) (t : State) : Prop := o = .returned (some (.int 1)) ∧ Framed s o t [] 131080 8709010
def lw_Z (below : List Frame) (a : Array Value) (s : State) : State → Prop := fun t => ∃ o, t.status = .running ∧ Ended t below o ∧ lw_Q a s o t
/-- the law's own end, with 1 on the stack, nothing written that was there before, its room as the claim has it -/
theorem lw_ret {p : Program} {l : Launch} {e : Env} {s : State} {m : MethodId} {below : List Frame} {meth : Method} {c : Code} {b : Nat} (hx : p.tables.exec = Jvm.exec) (hb : c.code = code) (hr : meth.sig.returnType = ret) (hlocks : meth.locks = false) {pc : Nat} {H : Heap} {ls : Array Slot} (hdg : decode code pc = .ok (.ireturn, 1)) : W p l e room_1 s m #[Value.ref b] below meth c H [] 131080 8709010 (lw_Z below #[Value.ref b] s) (F0 m pc ls [.int 1]) := by
  intro T hT X
  obtain ⟨fs, hret, hrun, hended, hW, hframe⟩ := X.leave (v := some (.int 1)) (hlocks := hlocks) (fun h => by rw [hr] at h; cases h)
  have hmeth' : T.vm.method? m = some meth := X.method'
  refine ⟨T.setFrames fs, ?_, .returned (some (.int 1)), hrun, hended, rfl, ⟨_, rfl⟩, hW, hframe⟩
  jvm_step X.here [X.here.top, hx, hb, hdg, hmeth', hr, ret, narrow_b1]
  (try refine ⟨rfl, ?_⟩); (try refine ⟨rfl, ?_⟩)
  first | (intro acts; rw [hret _ acts rfl rfl rfl]) | rw [hret _ _ rfl rfl rfl]
  exact Steps.refl _
/-- what holds at the law's entry: the machine, the code, the tables' words (any of lw_tbl by 'hts w (by decide +kernel)'), the script of L ints xs at the cell b, what the Statement gives of the start (any of its parts by flat_of_before) -/
def lw_At (p : Program) (s : State) (m : MethodId) (meth : Method) (c : Code) (b L : Nat) (xs : Nat → Int32) : Prop :=
  p.tables.exec = Jvm.exec ∧ c.code = code ∧ meth.sig.returnType = ret ∧ c.maxLocals = 4 ∧ s.vm.findClass R_law = some m.cls ∧ (∀ w ∈ lw_tbl, w.before #[Value.ref b] s = true) ∧ va_X b L xs s s.heap ∧ b < s.heap.size ∧ meth.locks = false ∧ (Jvm.Cond.and given_1 narrow_1).before #[Value.ref b] s = true
def tysF (ca : Nat → ClassId) : List (ClassId × FieldType) := (List.range (4 + aoL.length)).map (fun i => (ca (20 + i), aty (20 + i)))
theorem start_C {s : State} {args : Array Value} (hG : ∀ q ∈ GW, q.before args s = true) : ∃ (dC : Nat → ClassId) (dI : Nat → Nat → Nat), ∀ (k : Nat) (q : vw_C), vwCl[k]? = some q → u_Kn s q.1 q.2.1 q.2.2 (dC k) (dI k) := by
  have hc : ∀ k : Nat, ∃ z : ClassId × (Nat → Nat), ∀ q : vw_C, vwCl[k]? = some q → u_Kn s q.1 q.2.1 q.2.2 z.1 z.2 := by
    intro k
    match k with
    | 0 => obtain ⟨c, i, h⟩ := u_known (C := RX0) (T := TX0) (N := 12) (n := 12) hG cu_X0 (hG _ tw206); exact ⟨(c, i), fun q hq => by cases hq; exact h⟩
    | 1 => obtain ⟨c, i, h⟩ := u_known (C := RX1) (T := TX1) (N := 3) (n := 3) hG cu_X1 (hG _ tw429); exact ⟨(c, i), fun q hq => by cases hq; exact h⟩
    | 2 => obtain ⟨c, i, h⟩ := u_known (C := RX2) (T := TX2) (N := 1) (n := 1) hG cu_X2 (hG _ tw409); exact ⟨(c, i), fun q hq => by cases hq; exact h⟩
    | 3 => obtain ⟨c, i, h⟩ := u_known (C := RX3) (T := TX3) (N := 2) (n := 2) hG cu_X3 (hG _ tw285); exact ⟨(c, i), fun q hq => by cases hq; exact h⟩
    | 4 => obtain ⟨c, i, h⟩ := u_known (C := RX4) (T := TX4) (N := 9) (n := 9) hG cu_X4 (hG _ tw332); exact ⟨(c, i), fun q hq => by cases hq; exact h⟩
    | 5 => obtain ⟨c, i, h⟩ := u_known (C := RX6) (T := TX6) (N := 5) (n := 5) hG cu_X6 (hG _ tw261); exact ⟨(c, i), fun q hq => by cases hq; exact h⟩
    | 6 => obtain ⟨c, i, h⟩ := u_known (C := RX7) (T := TX7) (N := 6) (n := 6) hG cu_X7 (hG _ tw326); exact ⟨(c, i), fun q hq => by cases hq; exact h⟩
    | 7 => obtain ⟨c, i, h⟩ := u_known (C := RX8) (T := TX8) (N := 1) (n := 1) hG cu_X8 (hG _ tw419); exact ⟨(c, i), fun q hq => by cases hq; exact h⟩
    | 8 => obtain ⟨c, i, h⟩ := u_known (C := RX9) (T := TX9) (N := 7) (n := 7) hG cu_X9 (hG _ tw168); exact ⟨(c, i), fun q hq => by cases hq; exact h⟩
    | 9 => obtain ⟨c, i, h⟩ := u_known (C := RX10) (T := TX10) (N := 5) (n := 5) hG cu_X10 (hG _ tw174); exact ⟨(c, i), fun q hq => by cases hq; exact h⟩
    | 10 => obtain ⟨c, i, h⟩ := u_known (C := RX11) (T := TX11) (N := 6) (n := 6) hG cu_X11 (hG _ tw160); exact ⟨(c, i), fun q hq => by cases hq; exact h⟩
    | 11 => obtain ⟨c, i, h⟩ := u_known (C := RX12) (T := TX12) (N := 37) (n := 37) hG cu_X12 (hG _ tw1368); exact ⟨(c, i), fun q hq => by cases hq; exact h⟩
    | k + 12 => exact ⟨((0 : Nat), fun _ => 0), fun q hq => by simp [vwCl] at hq⟩
  obtain ⟨f, hf⟩ := Classical.axiomOfChoice hc
  exact ⟨fun k => (f k).1, fun k => (f k).2, hf⟩
theorem start_P {s : State} {args : Array Value} {ty : FieldType} (hp : ∀ C, ty ≠ .object C) (h : (Cond.arrayClass ty).before args s = true) : ∃ cA : ClassId, ArrOfT s cA ty ∧ va_RA s cA ty := by
  obtain ⟨c, k, comp, h1, h2, h3⟩ := Cond.arrayClass_spec h
  refine ⟨c, fun N z => ⟨fun q hq => (by cases hq), k, h2, comp, h3⟩, ?_⟩
  cases ty with
  | object C => exact absurd rfl (hp C)
  | _ => exact h1
theorem start_O {s : State} {args : Array Value} {C : String} (h : (Cond.arrayOver (.object C)).before args s = true) : ∃ cA : ClassId, ArrOfT s cA (.object C) ∧ va_RA s cA (.object C) := by
  obtain ⟨comp, c, k, h1, h2, h3, h4, h5⟩ := Cond.arrayOver_spec h
  exact ⟨c, fun N z => ⟨fun q hq => (by cases hq), k, h3, comp, h4⟩, k, comp, h3, h4, h1, h5⟩
theorem ao_in : ∀ C ∈ aoL, Cond.arrayOver (.object C) ∈ lw_tbl := by
  have h : ∀ C ∈ aoL, Cond.arrayOver (.object C) ∈ tables_1 := by decide +kernel
  exact fun C hC => List.mem_append_right _ (h C hC)
theorem ac_int : Cond.arrayClass .int ∈ lw_tbl := List.mem_append_right _ (by decide +kernel : Cond.arrayClass .int ∈ tables_1)
theorem ac_byte : Cond.arrayClass .byte ∈ lw_tbl := List.mem_append_right _ (by decide +kernel : Cond.arrayClass .byte ∈ tables_1)
theorem ac_long : Cond.arrayClass .long ∈ lw_tbl := List.mem_append_right _ (by decide +kernel : Cond.arrayClass .long ∈ tables_1)
theorem ac_boolean : Cond.arrayClass .boolean ∈ lw_tbl := List.mem_append_right _ (by decide +kernel : Cond.arrayClass .boolean ∈ tables_1)
theorem start_A {s : State} {args : Array Value} (hts : ∀ w ∈ lw_tbl, w.before args s = true) (hG : ∀ q ∈ GW, q.before args s = true) : ∃ ca : Nat → ClassId, ∀ (k : Nat) (q : ClassId × FieldType), (tysF ca)[k]? = some q → ArrOfT s q.1 q.2 ∧ va_RA s q.1 q.2 := by
  have hc : ∀ t : Nat, ∃ cA : ClassId, 20 ≤ t ∧ t < 24 + aoL.length → ArrOfT s cA (aty t) ∧ va_RA s cA (aty t) := by
    intro t
    by_cases ht : 20 ≤ t ∧ t < 24 + aoL.length
    · by_cases h4 : t < 24
      · have h5 : t = 20 ∨ t = 21 ∨ t = 22 ∨ t = 23 := by omega
        rcases h5 with rfl | rfl | rfl | rfl
        · obtain ⟨cA, h⟩ := start_P (ty := .int) (fun C q => by cases q) (hts _ ac_int)
          exact ⟨cA, fun _ => h⟩
        · obtain ⟨cA, h⟩ := start_P (ty := .byte) (fun C q => by cases q) (hts _ ac_byte)
          exact ⟨cA, fun _ => h⟩
        · obtain ⟨cA, h⟩ := start_P (ty := .long) (fun C q => by cases q) (hts _ ac_long)
          exact ⟨cA, fun _ => h⟩
        · obtain ⟨cA, h⟩ := start_P (ty := .boolean) (fun C q => by cases q) (hts _ ac_boolean)
          exact ⟨cA, fun _ => h⟩
      · have hm : aoL.getD (t - 24) "" ∈ aoL := by
          rw [List.getD_eq_getElem?_getD, List.getElem?_eq_getElem (by omega)]
          exact List.getElem_mem _
        obtain ⟨cA, h⟩ := start_O (hts _ (ao_in _ hm))
        refine ⟨cA, fun _ => ?_⟩
        unfold aty
        rw [if_neg (by omega), if_neg (by omega), if_neg (by omega), if_neg (by omega)]
        exact h
    · exact ⟨(0 : Nat), fun q => absurd q ht⟩
  obtain ⟨ca, hca⟩ := Classical.axiomOfChoice hc
  refine ⟨ca, fun k q hq => ?_⟩
  unfold tysF at hq
  rw [List.getElem?_map] at hq
  by_cases hk : k < 4 + aoL.length
  · rw [List.getElem?_range hk] at hq
    cases hq
    exact hca (20 + k) ⟨by omega, by omega⟩
  · rw [List.getElem?_eq_none (by simpa using hk)] at hq
    cases hq
def tmS (i : Nat) : Term := .string (stL.getD i ("", 0, "")).1 (stL.getD i ("", 0, "")).2.1
def flN : List Cond := flatC (Jvm.Cond.and given_1 narrow_1)
theorem st_ex : ∀ i : Nat, i < stL.length → Cond.exactly (tmS i) "java/lang/String" ∈ flN := by decide +kernel
theorem st_co : ∀ i : Nat, i < stL.length → Cond.eq (.field (tmS i) "java/lang/String" "coder" "B") (.int 0) ∈ flN := by decide +kernel
theorem st_ar : ∀ i : Nat, i < stL.length → Cond.arrayOf (.field (tmS i) "java/lang/String" "value" "[B") .byte ∈ flN := by decide +kernel
theorem st_le : ∀ i : Nat, i < stL.length → Cond.eq (.length (.field (tmS i) "java/lang/String" "value" "[B")) (.int (Int32.ofNat (stLen.getD i 0))) ∈ flN := by decide +kernel
theorem st_el : ∀ i : Nat, i < stL.length → ∀ j : Nat, j < stLen.getD i 0 → Cond.eq (.elem (.field (tmS i) "java/lang/String" "value" "[B") (.int (Int32.ofNat j))) (.int ((stByt.getD i []).getD j 0)) ∈ flN := by decide +kernel
def neF (c : Cond) : Option (Nat × Nat) := match c with
  | .not (.eq (.string a i) (.string b j)) => if a = "VersionSearch$Line" ∧ b = "VersionSearch$Line" then some (i, j) else none
  | _ => none
def neL : List (Nat × Nat) := [(111, 113), (111, 115), (113, 115), (111, 117), (113, 117), (115, 117), (111, 119), (113, 119), (115, 119), (117, 119), (111, 121), (113, 121), (115, 121), (117, 121), (119, 121), (111, 123), (113, 123), (115, 123), (117, 123), (119, 123), (121, 123), (111, 125), (113, 125), (115, 125), (117, 125), (119, 125), (121, 125), (123, 125), (111, 127), (113, 127), (115, 127), (117, 127), (119, 127), (121, 127), (123, 127), (125, 127), (111, 129), (113, 129), (115, 129), (117, 129), (119, 129), (121, 129), (123, 129), (125, 129), (127, 129), (111, 131), (113, 131), (115, 131), (117, 131), (119, 131), (121, 131), (123, 131), (125, 131), (127, 131), (129, 131), (111, 133), (113, 133), (115, 133), (117, 133), (119, 133), (121, 133), (123, 133), (125, 133), (127, 133), (129, 133), (131, 133), (111, 135), (113, 135), (115, 135), (117, 135), (119, 135), (121, 135), (123, 135), (125, 135), (127, 135), (129, 135), (131, 135), (133, 135), (111, 137), (113, 137), (115, 137), (117, 137), (119, 137), (121, 137), (123, 137), (125, 137), (127, 137), (129, 137), (131, 137), (133, 137), (135, 137), (111, 139), (113, 139), (115, 139), (117, 139), (119, 139), (121, 139), (123, 139), (125, 139), (127, 139), (129, 139), (131, 139), (133, 139), (135, 139), (137, 139), (111, 141), (113, 141), (115, 141), (117, 141), (119, 141), (121, 141), (123, 141), (125, 141), (127, 141), (129, 141), (131, 141), (133, 141), (135, 141), (137, 141), (139, 141), (111, 143), (113, 143), (115, 143), (117, 143), (119, 143), (121, 143), (123, 143), (125, 143), (127, 143), (129, 143), (131, 143), (133, 143), (135, 143), (137, 143), (139, 143), (141, 143), (111, 145), (113, 145), (115, 145), (117, 145), (119, 145), (121, 145), (123, 145), (125, 145), (127, 145), (129, 145), (131, 145), (133, 145), (135, 145), (137, 145), (139, 145), (141, 145), (143, 145), (111, 147), (113, 147), (115, 147), (117, 147), (119, 147), (121, 147), (123, 147), (125, 147), (127, 147), (129, 147), (131, 147), (133, 147), (135, 147), (137, 147), (139, 147), (141, 147), (143, 147), (145, 147), (111, 149), (113, 149), (115, 149), (117, 149), (119, 149), (121, 149), (123, 149), (125, 149), (127, 149), (129, 149), (131, 149), (133, 149), (135, 149), (137, 149), (139, 149), (141, 149), (143, 149), (145, 149), (147, 149), (111, 151), (113, 151), (115, 151), (117, 151), (119, 151), (121, 151), (123, 151), (125, 151), (127, 151), (129, 151), (131, 151), (133, 151), (135, 151), (137, 151), (139, 151), (141, 151), (143, 151), (145, 151), (147, 151), (149, 151), (111, 153), (113, 153), (115, 153), (117, 153), (119, 153), (121, 153), (123, 153), (125, 153), (127, 153), (129, 153), (131, 153), (133, 153), (135, 153), (137, 153), (139, 153), (141, 153), (143, 153), (145, 153), (147, 153), (149, 153), (151, 153)]
theorem neL_eq : flN.filterMap neF = neL := by decide +kernel
theorem neF_in {i j : Nat} (h : (i, j) ∈ neL) : Cond.not (.eq (.string "VersionSearch$Line" i) (.string "VersionSearch$Line" j)) ∈ flN := by
  rw [← neL_eq] at h
  obtain ⟨c, hc, he⟩ := List.mem_filterMap.mp h
  unfold neF at he
  split at he
  · obtain ⟨hq, he⟩ := ite_some he
    cases he
    rw [hq.1, hq.2] at hc
    exact hc
  · cases he
theorem neL_all : ∀ i : Nat, i < stL.length → ∀ j : Nat, j < stL.length → i = j ∨ ((stL.getD i ("", 0, "")).2.1, (stL.getD j ("", 0, "")).2.1) ∈ neL ∨ ((stL.getD j ("", 0, "")).2.1, (stL.getD i ("", 0, "")).2.1) ∈ neL := by decide +kernel
theorem st_own : ∀ i : Nat, i < stL.length → (stL.getD i ("", 0, "")).1 = "VersionSearch$Line" := by decide +kernel
theorem st_ne (i : Nat) (hi : i < stL.length) (j : Nat) (hj : j < stL.length) (hij : i ≠ j) : Cond.not (Cond.eq (tmS i) (tmS j)) ∈ flN ∨ Cond.not (Cond.eq (tmS j) (tmS i)) ∈ flN := by
  unfold tmS
  rw [st_own i hi, st_own j hj]
  exact ((neL_all i hi j hj).resolve_left hij).imp neF_in neF_in
theorem st_rf : ∀ i : Nat, i < stL.length → Cond.stringRef (stL.getD i ("", 0, "")).1 (stL.getD i ("", 0, "")).2.1 (stL.getD i ("", 0, "")).2.2 ∈ tables_1 := by decide +kernel
theorem st_nest : ∀ q ∈ nestL, Cond.methodLinkNest q.1 q.2.1 q.2.2.1 q.2.2.2 ∈ tables_1 := by decide +kernel
theorem st_lay1 : Cond.laysStatic "java/lang/String" "COMPACT_STRINGS" "Z" ∈ tables_1 := by decide +kernel
theorem st_lay2 : Cond.laysStatic "jdk/internal/util/Preconditions" "SIOOBE_FORMATTER" "Ljava/util/function/BiFunction;" ∈ tables_1 := by decide +kernel
theorem st_ini1 : Cond.initialized "java/lang/String" ∈ tables_1 := by decide +kernel
theorem st_ini2 : Cond.initialized "jdk/internal/util/Preconditions" ∈ tables_1 := by decide +kernel
theorem st_v1 : Cond.eq (.static "java/lang/String" "COMPACT_STRINGS" "Z") (.int 1) ∈ flN := by decide +kernel
theorem st_v2 : Cond.isRef (.static "jdk/internal/util/Preconditions" "SIOOBE_FORMATTER" "Ljava/util/function/BiFunction;") ∈ flN := by decide +kernel
/-- the pure heap at the start: the script alone -/
def hp0 (L : Nat) (xs : Nat → Int32) : Hp := (2, 0, fun _ => 0, fun o => if o = 1 then L else 0, fun o => if o = 1 then xs else fun _ => 0, fun _ _ => 0, fun _ _ => 0)
theorem start_SE {p : Program} {s : State} {m : MethodId} {meth : Method} {c : Code} (l : Launch) {b L : Nat} {xs : Nat → Int32} (C0 : lw_At p s m meth c b L xs) : ∃ w : Wd, wL w = l ∧ wz w = s.heap.size ∧ wb w = b ∧ wn w = L ∧ wxs w = xs ∧ SE w s s.heap := by
  obtain ⟨hx, hb, hr, hml, hown, hts, hX, hbl, hlocks, hgv⟩ := C0
  have hG : ∀ q ∈ GW, q.before #[Value.ref b] s = true := fun q hq => hts q (List.mem_filter.mp hq).1
  have hT : ∀ q ∈ tables_1, q.before #[Value.ref b] s = true := fun q hq => hts q (List.mem_append_right _ hq)
  have hF : ∀ q ∈ flN, q.before #[Value.ref b] s = true := flat_of_before _ hgv
  have hA : ∀ a : Nat, a < s.heap.size → ¬ s.heap.size ≤ a := fun a ha => Nat.not_le.mpr ha
  obtain ⟨dC, dI, hKc⟩ := start_C hG
  obtain ⟨ca, hKa⟩ := start_A hts hG
  obtain ⟨adK, adV, hS, hev⟩ := vk_Sof (tm := tmS) (N := stL.length) (len := stLen) (byt := stByt) (A := fun q => s.heap.size ≤ q) (fun i hi => (st_lens i hi).1) (fun i hi => hF _ (st_ex i hi)) (fun i hi => hF _ (st_co i hi)) (fun i hi => hF _ (st_ar i hi)) (fun i hi => hF _ (st_le i hi)) (fun i hi j hj => hF _ (st_el i hi j hj)) (fun i j hi hj hij => (st_ne i hi j hj hij).imp (hF _) (hF _)) hA
  have hZ1 := va_Zof (A := fun q => s.heap.size ≤ q) (hT _ st_lay1) (hT _ st_ini1) (va_eqi (hF _ st_v1)) hA
  have hZ2 := va_Zqof (A := fun q => s.heap.size ≤ q) (hT _ st_lay2) (hT _ st_ini2) (hF _ st_v2) hA
  obtain ⟨fm, hfm⟩ : ∃ fm : Option Nat, va_Z "jdk/internal/util/Preconditions" "SIOOBE_FORMATTER" "Ljava/util/function/BiFunction;" (va_rf fm) (fun q => s.heap.size ≤ q) s s.heap := by
    rcases hZ2 with q | ⟨t, q⟩
    · exact ⟨none, q⟩
    · exact ⟨some t, q⟩
  refine ⟨(l, (dC, dI), s.heap.size, ca, (b, L, xs), adK, adV, fm), rfl, rfl, rfl, rfl, rfl, ⟨hKc, hKa⟩, hbl, hX, hS, hZ1, hfm, fun i hi => vk_R.of (hT _ (st_rf i hi)) (hev i hi), fun q hq => ?_, fun C hC => va_AO.of (hts _ (ao_in C hC))⟩
  exact va_Nw.of rfl (hT _ (st_nest q hq))
/-- the law's walk, out of its pure run -/
theorem start_of (hlaw : ∀ (L : Nat) (xs : Nat → Int32), L ≤ 3584 → ∃ hF : Hp, Ev M_L_law [aA 1] (hp0 L xs) (some (aI 1), hF) ∧ hTop hF ≤ 3000 ∧ hUsed hF ≤ 400000) {p : Program} {e : Env} {s : State} {m : MethodId} {below : List Frame} {meth : Method} {c : Code} (l : Launch) (hflags : l.flags = flags0) {b L : Nat} {xs : Nat → Int32} (hL : L ≤ 3584) (C0 : lw_At p s m meth c b L xs) : W p l e room_1 s m #[Value.ref b] below meth c s.heap [] 0 0 (lw_Z below #[Value.ref b] s) (entryFrame m ([Value.ref b] : List Value).toArray 4) := by
  obtain ⟨w, rfl, hwz, hwb, hwn, hwx, hSE⟩ := start_SE l C0
  obtain ⟨hx, hb, hr, hml, hown, hts, hX, hbl, hlocks, hgv⟩ := C0
  obtain ⟨hF, hE, ht, hu⟩ := hlaw L xs hL
  have hl := lv_entry ([.ref b]) (n := 4) (Nat.le_of_ble_eq_true rfl)
  rw [lg_entry_eq]
  generalize (lg_sl ([.ref b]) ++ List.replicate (4 - (lg_sl ([.ref b])).length) Slot.unset).toArray = ls at hl ⊢
  have hl2 : LV w ls 4 (la [aA 1] 4) := LV.start (vs := [aA 1]) (by show lv_has ls 4 (lv_args 0 [cv w (aA 1)]); rw [cv_1, hwb]; exact hl)
  have hH : HPr w (hp0 L xs) s.heap := ⟨Nat.le_refl 2, Nat.le_of_ble_eq_true rfl, fun _ _ => rfl, fun a ha => (by cases ha), fun k q hq => (by cases hq), hwn.symm, hwx.symm⟩
  have hG := hE.2.2 w p e room_1 s m #[Value.ref b] below meth c (lw_Z below #[Value.ref b] s) 2 0 ⟨hx, hb, hml, hown, fun q hq => hts q (List.mem_filter.mp hq).1, hSE, hwz.symm, Nat.le_refl 2, fun q => absurd q (by decide), Nat.le_of_ble_eq_true rfl, Nat.le_of_ble_eq_true rfl⟩ (Nat.le_refl 2) (Nat.le_refl 0) (by show hTop hF - 2 ≤ 131080; omega) (by show hUsed hF - 0 ≤ 8709010; omega) ?_ s.heap [] ls hH va_S.rf hl2
  · exact hG
  · intro pc ls H locs hH hS
    refine ⟨fun x ho ht2 hd => ?_, fun x ho => (by cases ho), fun x ho => (by cases ho), fun ho => (by cases ho)⟩
    cases ho
    refine va_forget (fun q hq => by rw [← hwz]; exact hS.2.2 q hq) ?_
    refine W.widen (k := 131080) (n := 8709010) (by show hTop hF - 2 ≤ 131080; omega) (by show hUsed hF - 0 ≤ 8709010; omega) ?_
    exact lw_ret hx hb hr hlocks hd
