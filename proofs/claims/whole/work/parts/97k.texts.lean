/-! PURE PART: what the lines of a text make: its bounds -/
section TX3
variable {B : Int → Int} {L s f k dt : Int} {T : Int → Int} {el : (Int → Int) → Int → Int → Int} {stp : (Int → Int) → Int → Int → Int → Int → Int}
theorem stpA_ok (W : LnW B L f k) (A : AW T) (D : DW T) (k8 : 8 ≤ k) (k12 : k ≤ 12) (G : GoodA B L T f k) (h5 : T 5 + nwF B L f k ≤ 319) (hdt : dt = nvT T) : AW (stpA B L T f k dt) ∧ DW (stpA B L T f k dt) ∧ nvT (stpA B L T f k dt) = nvT T + 1 ∧ stpA B L T f k dt 5 ≤ T 5 + (if k ≤ 9 then nwF B L f k else 0) := by
  have kr := kk_rg k
  have h0 := A.n0
  have ex := ex_spec (B := B) (k := k) W.1.2.2 W.1.1 W.1.2.1
  have nw0 : 0 ≤ nwF B L f k := by unfold nwF; omega
  obtain ⟨g1, g2, g3, g4⟩ := G
  have hws : ∀ i, 0 ≤ i → i < nwF B L f k → wrg (wnL B L f k i) := fun i i0 i1 => (W.ok g2 i0 i1).1
  have fin : ∀ z d m n r, VK T z d m (wnL B L f k) n r → AW (mkT T z d m (wnL B L f k) n r dt) ∧ DW (mkT T z d m (wnL B L f k) n r dt) ∧ nvT (mkT T z d m (wnL B L f k) n r dt) = nvT T + 1 ∧ mkT T z d m (wnL B L f k) n r dt 5 = T 5 + m := fun z d m n r K => ⟨mk_AW A K, D.mk A K hdt, nv_mk A K, mk_5 K.2.1⟩
  unfold stpA
  by_cases c8 : k = 8
  · rw [if_pos c8, if_pos (by omega)]
    have g3 := g3 c8
    obtain ⟨a, b, c, d⟩ := fin _ _ _ _ _ (VK_doc A g3.1 nw0 g3.2 h5 hws)
    exact ⟨a, b, c, by omega⟩
  · rw [if_neg c8]
    obtain ⟨⟨d0, d1⟩, v9, th, g5⟩ := g4 (by omega)
    have nk : 2 ≤ nCk k := by
      unfold nCk
      rw [if_neg (by omega), if_neg (by omega), if_neg (by omega), if_neg (by omega)]
      repeat' split
      all_goals omega
    have n1 := (W.num (j := 1) (by omega) (by omega)).2
    have hn := A.2.1 _ d0 d1
    have hv : vvT T (viF B L f k 0) (T (1 + viF B L f k 0) - 1) := ⟨d0, d1, by omega, by omega⟩
    unfold thB at th
    by_cases c9 : k = 9
    · rw [if_pos c9, if_pos (by omega)]
      have g5 := g5 c9
      rw [if_pos (by omega)] at th
      have th := of_decide_eq_true th
      obtain ⟨a, b, c, d⟩ := fin _ _ _ _ _ (VK_put A hv v9 n1.1 th nw0 g5 h5 hws)
      exact ⟨a, b, c, by omega⟩
    · rw [if_neg c9, if_neg (show ¬ k ≤ 9 by omega)]
      rw [if_neg (by omega)] at th
      by_cases c10 : k = 10
      · rw [if_pos c10]
        rw [if_pos (by omega)] at th
        have th := of_decide_eq_true th
        have nk3 : nCk k = 3 := by rw [c10]; rfl
        have n2 := (W.num (j := 2) (by omega) (by omega)).2
        obtain ⟨a, b, c, d⟩ := fin _ _ _ _ _ (VK_cut A hv v9 n1.1 n2.1 th)
        exact ⟨a, b, c, by omega⟩
      · rw [if_neg c10]
        rw [if_neg (by omega)] at th
        by_cases c11 : k = 11
        · rw [if_pos c11]
          rw [if_pos (by omega)] at th
          have th := of_decide_eq_true th
          have nk3 : nCk k = 3 := by rw [c11]; rfl
          have n2 := (W.num (j := 2) (by omega) (by omega)).2
          obtain ⟨a, b, c, d⟩ := fin _ _ _ _ _ (VK_mov A hv v9 n1.1 th.1 n2.1 th.2)
          exact ⟨a, b, c, by omega⟩
        · rw [if_neg c11]
          rw [if_neg (by omega)] at th
          have th := of_decide_eq_true th
          obtain ⟨a, b, c, d⟩ := fin _ _ _ _ _ (VK_bck A ⟨d0, d1, n1.1, th⟩ v9)
          exact ⟨a, b, c, by omega⟩
theorem li_kw (h : 0 ≤ liK B L s f) : kwQ B L f (liK B L s f) = true := by
  unfold liK kiF at *
  rcases fiZ_spec 15 (fun k => decide (soK k = s) && (decide (ckF B L f = 1) && kwB B f (toF B L f) k)) with ⟨e1, _⟩ | ⟨e1, e2, e3, _⟩
  · omega
  · exact ((Bool.and_eq_true _ _).mp e3).2
/-- how many bytes a line with words takes -/
theorem line_far (W : LnW B L f k) (fl : f < L) (k89 : k = 8 ∨ k = 9) (hq : kwQ B L f k = true) (h3 : ckF B L (tkI B L f (1 + shL k + exF B L f k)) = 3) : f + 3 + 2 * nwF B L f k ≤ tkI B L f (1 + shL k + exF B L f k) := by
  have ex := ex_spec (B := B) (k := k) W.1.2.2 W.1.1 W.1.2.1
  have kr := kk_rg k
  have cm : moK k = true := by unfold moK; exact decide_eq_true (by omega)
  have cw : wCk k = 0 := by
    rcases k89 with q | q <;> rw [q] <;> rfl
  have nd : nwF B L f k = exF B L f k := by
    have : nwF B L f k = wCk k + exF B L f k := rfl
    omega
  have q2 := (Bool.and_eq_true _ _).mp hq
  have c1 : ckF B L f = 1 := of_decide_eq_true q2.1
  have t3 : toF B L f = f + 3 := by
    have := ((kwB_iff (by omega) (by omega)).mp q2.2).1
    have l3 : kwL k = 3 := by rcases k89 with q | q <;> rw [q] <;> rfl
    omega
  have st := let_step (B := B) W.1.2.1 c1
  have n1 : tkI B L f 1 = nxF B L f := rfl
  have b1 : f + 3 ≤ tkI B L f 1 := by
    rw [n1]
    split at st <;> omega
  -- where the words begin
  have b0 : 0 < nwF B L f k → f + 4 ≤ wpF B L f k 0 := fun q => by
    have w := W.wrd (j := 0) (by omega) q
    rcases k89 with y | y
    · have e : wpF B L f k 0 = nxF B L f := by
        unfold wpF
        have : wOk k = 0 := by rw [y]; rfl
        rw [this]
        rfl
      rw [e] at w ⊢
      rw [if_pos w.1] at st
      omega
    · have e : wpF B L f k 0 = tkI B L f 3 := by
        unfold wpF
        have : wOk k = 2 := by rw [y]; rfl
        rw [this]
        rfl
      have sh2 : shL k = 2 := by rw [y]; rfl
      have i0 := W.item (i := 0) (by omega) (by omega)
      have cn0 : cnK k 0 = 2 := by unfold cnK; rw [if_neg (by omega)]
      have a := tk_lt (B := B) (f := f) (L := L) (i := 1) (j := 3) W.1.2.1 (by omega) (by omega) (by
        have : ckF B L (tkI B L f (1 + 0)) = 2 := by rw [i0, cn0]
        have e : tkI B L f (1 + 0) = tkI B L f 1 := rfl
        rw [e] at this
        omega)
      rw [e]
      omega
  have far : ∀ j : Nat, (j : Int) < nwF B L f k → f + 4 + 2 * j ≤ wpF B L f k j := fun j => by
    induction j with
    | zero => intro q; have := b0 (by omega); show f + 4 + 2 * ((0 : Nat) : Int) ≤ wpF B L f k 0; omega
    | succ j ih =>
      intro q
      have ih := ih (by omega)
      have c := W.wrd (j := (j : Int)) (by omega) (by omega)
      have c2 := W.wrd (j := ((j + 1 : Nat) : Int)) (by omega) q
      have e : nxF B L (wpF B L f k j) = wpF B L f k ((j + 1 : Nat) : Int) := by
        unfold wpF
        rw [show 1 + wOk k + ((j + 1 : Nat) : Int) = 1 + wOk k + (j : Int) + 1 by omega, tkI_succ (by omega)]
      have s := let_step c.2.2 c.1
      rw [e, if_pos c2.1] at s
      have t := ck_let c.1 c.2.2
      omega
  have e : tkI B L f (1 + shL k + exF B L f k) = wpF B L f k (nwF B L f k) := by
    unfold wpF
    rw [nd, mo_shL cm, cw, show 1 + (wOk k + 0) + exF B L f k = 1 + wOk k + exF B L f k by omega]
  by_cases q : nwF B L f k = 0
  · have m := tk_le (B := B) (f := f) (L := L) (i := 1) (j := 1 + shL k + exF B L f k) W.1.2.1 (by omega) (by omega)
    omega
  · have w := far (nwF B L f k - 1).toNat (by omega)
    rw [show (((nwF B L f k - 1).toNat : Nat) : Int) = nwF B L f k - 1 by omega] at w
    have c := W.wrd (j := nwF B L f k - 1) (by omega) (by omega)
    have l := tk_lt (B := B) (f := f) (L := L) (i := 1 + wOk k + (nwF B L f k - 1)) (j := 1 + wOk k + nwF B L f k) W.1.2.1 (by omega) (by omega) (by
      have : ckF B L (tkI B L f (1 + wOk k + (nwF B L f k - 1))) = 1 := c.1
      omega)
    rw [e]
    unfold wpF at *
    omega
theorem ty_0 : tyN el stp B L s 0 = (9999, fun _ => 0) := rfl
/-- a fault so far stands ahead of the next line -/
def TyB (el : (Int → Int) → Int → Int → Int) (stp : (Int → Int) → Int → Int → Int → Int → Int) (B : Int → Int) (L s : Int) (n : Nat) : Prop := (tyN el stp B L s n).1 = 9999 ∨ ((tyN el stp B L s n).1 < 8 * lsN B L s n)
theorem TyB_all (h0 : 0 ≤ L) (hL : L ≤ 600) (hE : ∀ n : Nat, (n : Int) < nlF B L s → (tyN el stp B L s n).1 = 9999 → EB (lsN B L s n) (leF B L s (lsN B L s n)) (el (tyN el stp B L s n).2 (lsN B L s n) (liK B L s (lsN B L s n)))) : ∀ n : Nat, (n : Int) ≤ nlF B L s → TyB el stp B L s n := by
  intro n
  induction n with
  | zero =>
    intro _
    unfold TyB
    rw [ty_0]
    exact Or.inl (show (9999 : Int) = 9999 from rfl)
  | succ n ih =>
    intro hn
    obtain ⟨_, _, n2, _⟩ := nl_spec (B := B) (s := s) h0 hL
    have ih := ih (by omega)
    have r := ls_rg (B := B) (s := s) h0 hL n
    have lo := n2 (n : Int) (by omega) (by omega)
    rw [show lsI B L s (n : Int) = lsN B L s n from rfl] at lo
    have l2_ := lo_2 lo r.1 r.2 hL
    have le_ := le_rg (B := B) (s := s) r.1 r.2 hL
    have nx := nx_rg (B := B) le_.2
    have e1 : lsN B L s (n + 1) = nxF B L (leF B L s (lsN B L s n)) := rfl
    have nx2 := nx.2.2 (by omega)
    have e2 : (tyN el stp B L s (n + 1)).1 = if (tyN el stp B L s n).1 = 9999 then el (tyN el stp B L s n).2 (lsN B L s n) (liK B L s (lsN B L s n)) else (tyN el stp B L s n).1 := by
      show (if (tyN el stp B L s n).1 = 9999 then _ else tyN el stp B L s n).1 = _
      split <;> rfl
    unfold TyB
    rw [e2, e1]
    by_cases c : (tyN el stp B L s n).1 = 9999
    · rw [if_pos c]
      have := hE n (by omega) c
      unfold EB at this
      omega
    · rw [if_neg c]
      rcases ih with q | q
      · exact absurd q c
      · omega
theorem ty_1 {n : Nat} (c : (tyN el stp B L s n).1 = 9999) : tyN el stp B L s (n + 1) = (el (tyN el stp B L s n).2 (lsN B L s n) (liK B L s (lsN B L s n)), if el (tyN el stp B L s n).2 (lsN B L s n) (liK B L s (lsN B L s n)) = 9999 then stp (tyN el stp B L s n).2 (lsN B L s n) (liK B L s (lsN B L s n)) n else (tyN el stp B L s n).2) := if_pos c
theorem ty_2 {n : Nat} (c : (tyN el stp B L s n).1 ≠ 9999) : tyN el stp B L s (n + 1) = tyN el stp B L s n := if_neg c
theorem AW_0 : AW (fun _ => 0) := by
  refine ⟨(show (0 : Int) ≤ 0 ∧ (0 : Int) ≤ 4 by omega), fun d d0 d1 => absurd d1 (by show ¬ d < (0 : Int); omega), fun d _ _ => rfl, (show (0 : Int) ≤ 0 ∧ (0 : Int) ≤ 319 by omega), fun d v hv => ?_, fun d v q hp => ?_, fun d v q r hp => ?_, fun t t0 t1 => absurd t1 (by show ¬ t < (0 : Int); omega)⟩
  · have : d < (0 : Int) := hv.2.1
    have := hv.1
    omega
  · have : d < (0 : Int) := hp.1.2.1
    have := hp.1.1
    omega
  · have : d < (0 : Int) := hp.1.2.1
    have := hp.1.1
    omega
theorem DW_0 : DW (fun _ => 0) := fun d v hv => by
  have : d < (0 : Int) := hv.2.1
  have := hv.1
  omega
/-- archives, line by line -/
abbrev tyA (B : Int → Int) (L : Int) (n : Nat) : Int × (Int → Int) := tyN (elA B L) (fun T f k n => stpA B L T f k n) B L 0 n
def InvA (B : Int → Int) (L : Int) (n : Nat) : Prop := AW (tyA B L n).2 ∧ DW (tyA B L n).2 ∧ 11 * (tyA B L n).2 5 ≤ 5 * lsN B L 0 n ∧ ((tyA B L n).1 = 9999 → nvT (tyA B L n).2 = n)
theorem so_0 {k : Int} (h : soK k = 0) (k0 : 0 ≤ k) (k1 : k < 15) : 8 ≤ k ∧ k ≤ 12 := by
  unfold soK at h
  split at h
  · omega
  · split at h <;> omega
theorem InvA_all (h0 : 0 ≤ L) (hL : L ≤ 600) : ∀ n : Nat, (n : Int) ≤ nlF B L 0 → InvA B L n := by
  intro n
  induction n with
  | zero =>
    intro _
    have e : tyA B L 0 = (9999, fun _ => 0) := rfl
    have r := ls_rg (B := B) (s := 0) h0 hL 0
    unfold InvA
    rw [e]
    exact ⟨AW_0, DW_0, by show 11 * (0 : Int) ≤ 5 * lsN B L 0 0; omega, fun _ => rfl⟩
  | succ n ih =>
    intro hn
    obtain ⟨_, _, n2, _⟩ := nl_spec (B := B) (s := 0) h0 hL
    have ih := ih (by omega)
    have r := ls_rg (B := B) (s := 0) h0 hL n
    have lo := n2 (n : Int) (by omega) (by omega)
    rw [show lsI B L 0 (n : Int) = lsN B L 0 n from rfl] at lo
    have lw := lo_2 lo r.1 r.2 hL
    have nx := nx_rg (B := B) (le_rg (B := B) (s := 0) r.1 r.2 hL).2
    have e1 : lsN B L 0 (n + 1) = nxF B L (leF B L 0 (lsN B L 0 n)) := rfl
    have nx2 := nx.2.2 (by omega)
    have mono : lsN B L 0 n ≤ lsN B L 0 (n + 1) := by
      rw [e1]
      omega
    obtain ⟨i1, i2, i3, i4⟩ := ih
    have W := lw.1
    have k89 := so_0 lw.2.1 W.2.1.1 W.2.1.2
    by_cases c : (tyA B L n).1 = 9999
    · have e2 : tyA B L (n + 1) = (elA B L (tyA B L n).2 (lsN B L 0 n) (liK B L 0 (lsN B L 0 n)), if elA B L (tyA B L n).2 (lsN B L 0 n) (liK B L 0 (lsN B L 0 n)) = 9999 then stpA B L (tyA B L n).2 (lsN B L 0 n) (liK B L 0 (lsN B L 0 n)) n else (tyA B L n).2) := ty_1 (el := elA B L) (stp := fun T f k n => stpA B L T f k n) (s := 0) c
      unfold InvA
      rw [e2]
      by_cases q : elA B L (tyA B L n).2 (lsN B L 0 n) (liK B L 0 (lsN B L 0 n)) = 9999
      · have GA := elA_ok W i1 k89.1 k89.2 q
        have nd := fun (y : liK B L 0 (lsN B L 0 n) ≠ 8 ∧ liK B L 0 (lsN B L 0 n) ≠ 9) => ex_no W (fun m => by
          have := of_decide_eq_true m
          omega)
        have n20 : nwF B L (lsN B L 0 n) (liK B L 0 (lsN B L 0 n)) ≤ 20 := by
          by_cases c8 : liK B L 0 (lsN B L 0 n) = 8
          · exact (GA.2.2.1 c8).2
          · by_cases c9 : liK B L 0 (lsN B L 0 n) = 9
            · have g := GA.2.2.2 (by omega)
              have hn := i1.2.1 _ g.1.1 g.1.2
              have hl := i1.ln (d := viF B L (lsN B L 0 n) (liK B L 0 (lsN B L 0 n)) 0) (v := (tyA B L n).2 (1 + viF B L (lsN B L 0 n) (liK B L 0 (lsN B L 0 n)) 0) - 1) ⟨g.1.1, g.1.2, by omega, by omega⟩
              have := g.2.2.2 c9
              omega
            · have := nd ⟨c8, c9⟩
              have kr := kk_rg (liK B L 0 (lsN B L 0 n))
              omega
        obtain ⟨s1, s2, s3, s4⟩ := stpA_ok W i1 i2 k89.1 k89.2 GA (by omega) (i4 c).symm
        simp only [if_pos q]
        refine ⟨s1, s2, ?_, fun _ => by rw [s3, i4 c]; omega⟩
        by_cases y : liK B L 0 (lsN B L 0 n) ≤ 9
        · rw [if_pos y] at s4
          have fa := line_far W (by omega) (by omega) (li_kw W.2.1.1) (by rw [← lw.2.2.1]; exact lw.2.2.2.1)
          rw [← lw.2.2.1] at fa
          rw [e1]
          omega
        · rw [if_neg y] at s4
          omega
      · simp only [if_neg q]
        exact ⟨i1, i2, by omega, fun y => absurd y q⟩
    · have e2 : tyA B L (n + 1) = tyA B L n := ty_2 (el := elA B L) (stp := fun T f k n => stpA B L T f k n) (s := 0) c
      unfold InvA
      rw [e2]
      exact ⟨i1, i2, by
        have : 11 * (tyA B L n).2 5 ≤ 5 * lsN B L 0 (n + 1) := by omega
        exact this, fun y => absurd y c⟩
end TX3
