/-! PURE PART: tokens one behind the other -/
/-- where the next token begins -/
def nxF (B : Int → Int) (L f : Int) : Int := frF B L (toF B L f)
def tkN (B : Int → Int) (L f : Int) : Nat → Int
  | 0 => f
  | n + 1 => nxF B L (tkN B L f n)
/-- the i-th token from f on -/
def tkI (B : Int → Int) (L f i : Int) : Int := tkN B L f i.toNat
theorem fiZ_succ {n : Int} {p : Int → Bool} (h : 0 ≤ n) : fiZ (n + 1) p = if fiZ n p = -1 then (if p n = true then n else -1) else fiZ n p := by
  rcases fiZ_spec n p with ⟨e1, e2⟩ | ⟨e1, e2, e3, e4⟩
  · rw [if_pos e1]
    by_cases c : p n = true
    · rw [if_pos c]
      exact fiZ_eq h (by omega) c e2
    · rw [if_neg c]
      refine fiZ_none (fun i i0 i1 => ?_)
      by_cases q : i = n
      · rw [q]
        simpa using c
      · exact e2 i i0 (by omega)
  · rw [if_neg (by omega)]
    exact fiZ_eq e1 (by omega) e3 e4
section WK
variable {B : Int → Int} {L f i j : Int}
theorem fr_rg (h : i ≤ L) : i ≤ frF B L i ∧ frF B L i ≤ L := ⟨(adv_spec (fun k => blB (B k)) h).1, (adv_spec (fun k => blB (B k)) h).2.1⟩
theorem to_rg (h : f ≤ L) : f ≤ toF B L f ∧ toF B L f ≤ L ∧ (f < L → f < toF B L f) := by
  unfold toF
  by_cases c : L ≤ f
  · rw [if_pos c]
    exact ⟨Int.le_refl f, h, fun q => by omega⟩
  · rw [if_neg c]
    by_cases cl : leB (B f) = true
    · rw [if_pos cl]
      obtain ⟨s1, s2, s3, s4⟩ := adv_spec (fun k => leB (B k)) h
      refine ⟨s1, s2, fun _ => ?_⟩
      by_cases q : adv (fun k => leB (B k)) L f = f
      · rw [q] at s4
        have := s4 (by omega)
        rw [cl] at this
        cases this
      · omega
    · rw [if_neg cl]
      by_cases cd : diB (B f) = true
      · rw [if_pos cd]
        obtain ⟨s1, s2, s3, s4⟩ := adv_spec (fun k => diB (B k)) h
        refine ⟨s1, s2, fun _ => ?_⟩
        by_cases q : adv (fun k => diB (B k)) L f = f
        · rw [q] at s4
          have := s4 (by omega)
          rw [cd] at this
          cases this
        · omega
      · rw [if_neg cd]
        omega
theorem nx_rg (h : f ≤ L) : f ≤ nxF B L f ∧ nxF B L f ≤ L ∧ (f < L → f < nxF B L f) := by
  have a := to_rg (B := B) h
  have b := fr_rg (B := B) (i := toF B L f) a.2.1
  unfold nxF
  omega
theorem ck_rg : 0 ≤ ckF B L f ∧ ckF B L f ≤ 4 := by
  unfold ckF
  by_cases c : L ≤ f
  · rw [if_pos c]; omega
  · rw [if_neg c]
    by_cases cl : leB (B f) = true
    · rw [if_pos cl]; omega
    · rw [if_neg cl]
      by_cases cd : diB (B f) = true
      · rw [if_pos cd]
        split <;> omega
      · rw [if_neg cd]
        split <;> omega
theorem ck_0 : ckF B L f = 0 ↔ L ≤ f := by
  unfold ckF
  by_cases c : L ≤ f
  · rw [if_pos c]; omega
  · rw [if_neg c]
    by_cases cl : leB (B f) = true
    · rw [if_pos cl]; omega
    · rw [if_neg cl]
      by_cases cd : diB (B f) = true
      · rw [if_pos cd]
        split <;> omega
      · rw [if_neg cd]
        split <;> omega
theorem rk_ck : rkF B L f = if ckF B L f = 0 then 0 else if ckF B L f = 1 then 2 else if ckF B L f = 2 then 3 else if ckF B L f = 3 then 4 else 1 := by
  unfold rkF ckF
  by_cases c : L ≤ f
  · rw [if_pos c, if_pos c]; rfl
  · rw [if_neg c, if_neg c]
    by_cases cl : leB (B f) = true
    · rw [if_pos cl, if_pos cl]; rfl
    · rw [if_neg cl, if_neg cl]
      by_cases cd : diB (B f) = true
      · rw [if_pos cd, if_pos cd]
        split <;> rfl
      · rw [if_neg cd, if_neg cd]
        split <;> rfl
/-- a token of letters -/
theorem ck_let (h : ckF B L f = 1) (hf : f ≤ L) : f < L ∧ f < toF B L f ∧ toF B L f ≤ L ∧ ∀ k, f ≤ k → k < toF B L f → 97 ≤ B k ∧ B k ≤ 122 := by
  have c : f < L := by
    have := ck_0 (B := B) (L := L) (f := f)
    omega
  have a := to_rg (B := B) hf
  refine ⟨c, a.2.2 c, a.2.1, ?_⟩
  have cl : leB (B f) = true := by
    unfold ckF at h
    rw [if_neg (by omega)] at h
    by_cases cl : leB (B f) = true
    · exact cl
    · rw [if_neg cl] at h
      by_cases cd : diB (B f) = true
      · rw [if_pos cd] at h
        split at h <;> omega
      · rw [if_neg cd] at h
        split at h <;> omega
  unfold toF
  rw [if_neg (by omega), if_pos cl]
  obtain ⟨s1, s2, s3, s4⟩ := adv_spec (fun k => leB (B k)) hf
  intro k k0 k1
  have : leB (B k) = true := s3 k k0 k1
  unfold leB at this
  exact of_decide_eq_true this
/-- a token of one digit or two -/
theorem ck_num (h : ckF B L f = 2) (hf : f ≤ L) : f < L ∧ f < toF B L f ∧ toF B L f ≤ f + 2 ∧ toF B L f ≤ L ∧ 0 ≤ nuN B f (toF B L f - f) ∧ nuN B f (toF B L f - f) ≤ 99 := by
  have c : f < L := by
    have := ck_0 (B := B) (L := L) (f := f)
    omega
  have a := to_rg (B := B) hf
  have cd : leB (B f) ≠ true ∧ diB (B f) = true ∧ ¬ 2 < toF B L f - f := by
    unfold ckF at h
    rw [if_neg (by omega)] at h
    by_cases cl : leB (B f) = true
    · rw [if_pos cl] at h
      omega
    · rw [if_neg cl] at h
      by_cases cd : diB (B f) = true
      · rw [if_pos cd] at h
        refine ⟨cl, cd, ?_⟩
        split at h <;> omega
      · rw [if_neg cd] at h
        split at h <;> omega
  have dg : ∀ k, f ≤ k → k < toF B L f → 48 ≤ B k ∧ B k ≤ 57 := by
    unfold toF
    rw [if_neg (by omega), if_neg cd.1, if_pos cd.2.1]
    obtain ⟨s1, s2, s3, s4⟩ := adv_spec (fun k => diB (B k)) hf
    intro k k0 k1
    have : diB (B k) = true := s3 k k0 k1
    unfold diB at this
    exact of_decide_eq_true this
  have c1 := a.2.2 c
  have d0 := dg f (Int.le_refl f) c1
  refine ⟨c, c1, by omega, a.2.1, ?_⟩
  unfold nuN
  rw [if_neg (by omega)]
  by_cases q : toF B L f - f = 1
  · rw [if_pos q]
    omega
  · rw [if_neg q]
    have d1 := dg (f + 1) (by omega) (by omega)
    omega
theorem tkI_0 : tkI B L f 0 = f := rfl
theorem tkI_succ (h : 0 ≤ i) : tkI B L f (i + 1) = nxF B L (tkI B L f i) := by
  unfold tkI
  rw [show (i + 1).toNat = i.toNat + 1 by omega]
  rfl
theorem tk_rgN (h : f ≤ L) : ∀ n : Nat, f ≤ tkN B L f n ∧ tkN B L f n ≤ L ∧ (f + n ≤ tkN B L f n ∨ L ≤ tkN B L f n)
  | 0 => ⟨Int.le_refl f, h, Or.inl (by show f + ((0 : Nat) : Int) ≤ f; omega)⟩
  | n + 1 => by
    have ih := tk_rgN h n
    have a := nx_rg (B := B) (f := tkN B L f n) ih.2.1
    have e : tkN B L f (n + 1) = nxF B L (tkN B L f n) := rfl
    rw [e]
    omega
theorem tk_rg (h : f ≤ L) (i0 : 0 ≤ i) : f ≤ tkI B L f i ∧ tkI B L f i ≤ L ∧ (f + i ≤ tkI B L f i ∨ L ≤ tkI B L f i) := by
  have := tk_rgN (B := B) h i.toNat
  unfold tkI
  omega
theorem tk_nx (h : f ≤ L) (i0 : 0 ≤ i) (c : ckF B L (tkI B L f i) ≠ 0) : tkI B L f i < tkI B L f (i + 1) := by
  rw [tkI_succ i0]
  have a := tk_rg (B := B) h i0
  have := ck_0 (B := B) (L := L) (f := tkI B L f i)
  exact (nx_rg a.2.1).2.2 (by omega)
theorem tk_leN (h : f ≤ L) (i0 : 0 ≤ i) : ∀ n : Nat, tkI B L f i ≤ tkI B L f (i + n)
  | 0 => by rw [show i + ((0 : Nat) : Int) = i by omega]; exact Int.le_refl _
  | n + 1 => by
    have ih := tk_leN h i0 n
    have a := tk_rg (B := B) (i := i + n) h (by omega)
    rw [show i + ((n + 1 : Nat) : Int) = (i + n) + 1 by omega, tkI_succ (by omega)]
    have := nx_rg (B := B) a.2.1
    omega
theorem tk_le (h : f ≤ L) (i0 : 0 ≤ i) (ij : i ≤ j) : tkI B L f i ≤ tkI B L f j := by
  have := tk_leN (B := B) h i0 (j - i).toNat
  rw [show i + ((j - i).toNat : Int) = j by omega] at this
  exact this
theorem tk_lt (h : f ≤ L) (i0 : 0 ≤ i) (ij : i < j) (c : ckF B L (tkI B L f i) ≠ 0) : tkI B L f i < tkI B L f j := by
  have a := tk_nx h i0 c
  have b := tk_le (B := B) (i := i + 1) (j := j) h (by omega) (by omega)
  omega
end WK
/-! a line's shape, by its kind -/
/-- how many numbers a line of a kind has -/
def nCk (k : Int) : Int := if k ≤ 0 then 0 else if k ≤ 5 then 1 else if k ≤ 7 then 2 else if k = 8 then 0 else if k = 9 then 2 else if k ≤ 11 then 3 else 2
/-- how many words it must have (ahead of the numbers) -/
def wCk (k : Int) : Int := if k = 0 then 1 else if k = 1 then 2 else if k = 2 then 1 else 0
/-- further words may come -/
def moK (k : Int) : Bool := decide (k = 0 ∨ k = 8 ∨ k = 9)
/-- behind how many items its words begin -/
def wOk (k : Int) : Int := if k = 9 then 2 else 0
def shL (k : Int) : Int := wCk k + nCk k
/-- what item i must be -/
def cnK (k i : Int) : Int := if i < wCk k then 1 else 2
def miF (B : Int → Int) (L f k : Int) : Int := fiZ (shL k) (fun i => decide (ckF B L (tkI B L f (1 + i)) ≠ cnK k i))
def exF (B : Int → Int) (L f k : Int) : Int := if moK k = true then fiZ 601 (fun i => decide (ckF B L (tkI B L f (1 + shL k + i)) ≠ 1)) else 0
/-- the token where it stops -/
def enF (B : Int → Int) (L f k : Int) : Int := if miF B L f k = -1 then 1 + shL k + exF B L f k else 1 + miF B L f k
def liK (B : Int → Int) (L s f : Int) : Int := kiF B (ckF B L f) f (toF B L f) s
/-- a line's outcome: 0 the end, 1 wrong, 2 whole -/
def loF (B : Int → Int) (L s f : Int) : Int := if ckF B L f = 0 then 0 else if liK B L s f = -1 then 1 else if miF B L f (liK B L s f) = -1 ∧ ckF B L (tkI B L f (enF B L f (liK B L s f))) = 3 then 2 else 1
def leF (B : Int → Int) (L s f : Int) : Int := if ckF B L f = 0 then f else if liK B L s f = -1 then f else tkI B L f (enF B L f (liK B L s f))
def vpF (B : Int → Int) (L f k j : Int) : Int := tkI B L f (1 + wCk k + j)
def viF (B : Int → Int) (L f k j : Int) : Int := nuN B (vpF B L f k j) (toF B L (vpF B L f k j) - vpF B L f k j)
def wpF (B : Int → Int) (L f k j : Int) : Int := tkI B L f (1 + wOk k + j)
def spL (B : Int → Int) (L f k j : Int) : Int := spF B (wpF B L f k j) (toF B L (wpF B L f k j))
def nwF (B : Int → Int) (L f k : Int) : Int := wCk k + exF B L f k
def lgB (B : Int → Int) (L f k j : Int) : Bool := decide (4 < toF B L (wpF B L f k j) - wpF B L f k j)
/-- the place of the first misspelt word of n, -1 where there is none -/
def msF (B : Int → Int) (L f k n : Int) : Int := if fiZ n (lgB B L f k) = -1 then -1 else wpF B L f k (fiZ n (lgB B L f k))
theorem kk_rg (k : Int) : (0 ≤ nCk k ∧ nCk k ≤ 3) ∧ (0 ≤ wCk k ∧ wCk k ≤ 2) ∧ (0 ≤ wOk k ∧ wOk k ≤ 2) ∧ shL k = wCk k + nCk k ∧ 0 ≤ shL k ∧ shL k ≤ 5 := by
  unfold shL nCk wCk wOk
  repeat' split
  all_goals omega
section EX
variable {B : Int → Int} {L f k : Int}
theorem ex_spec (hL : L ≤ 600) (f0 : 0 ≤ f) (h : f ≤ L) : 0 ≤ exF B L f k ∧ exF B L f k ≤ 599 ∧ (∀ i, 0 ≤ i → i < exF B L f k → ckF B L (tkI B L f (1 + shL k + i)) = 1) ∧ (moK k = true → ckF B L (tkI B L f (1 + shL k + exF B L f k)) ≠ 1) ∧ (moK k ≠ true → exF B L f k = 0) := by
  have kr := kk_rg k
  unfold exF
  by_cases c : moK k = true
  · simp only [if_pos c]
    have e : ckF B L (tkI B L f (1 + shL k + 599)) ≠ 1 := by
      have a := tk_rg (B := B) (i := 1 + shL k + 599) h (by omega)
      have := (ck_0 (B := B) (L := L) (f := tkI B L f (1 + shL k + 599))).mpr (by omega)
      omega
    rcases fiZ_spec 601 (fun i => decide (ckF B L (tkI B L f (1 + shL k + i)) ≠ 1)) with ⟨e1, e2⟩ | ⟨e1, e2, e3, e4⟩
    · have := e2 599 (by omega) (by omega)
      exact absurd e (of_decide_eq_false this)
    · refine ⟨e1, ?_, fun i i0 i1 => ?_, fun _ => of_decide_eq_true e3, fun q => absurd c q⟩
      · by_cases q : fiZ 601 (fun i => decide (ckF B L (tkI B L f (1 + shL k + i)) ≠ 1)) ≤ 599
        · exact q
        · have := e4 599 (by omega) (by omega)
          exact absurd e (of_decide_eq_false this)
      · have := e4 i i0 i1
        have := of_decide_eq_false this
        omega
  · simp only [if_neg c]
    exact ⟨by omega, by omega, fun i i0 i1 => by omega, fun q => absurd q c, fun _ => trivial⟩
theorem mi_spec : (miF B L f k = -1 ∧ ∀ i, 0 ≤ i → i < shL k → ckF B L (tkI B L f (1 + i)) = cnK k i) ∨ (0 ≤ miF B L f k ∧ miF B L f k < shL k ∧ ckF B L (tkI B L f (1 + miF B L f k)) ≠ cnK k (miF B L f k) ∧ ∀ i, 0 ≤ i → i < miF B L f k → ckF B L (tkI B L f (1 + i)) = cnK k i) := by
  unfold miF
  rcases fiZ_spec (shL k) (fun i => decide (ckF B L (tkI B L f (1 + i)) ≠ cnK k i)) with ⟨e1, e2⟩ | ⟨e1, e2, e3, e4⟩
  · refine Or.inl ⟨e1, fun i i0 i1 => ?_⟩
    have := of_decide_eq_false (e2 i i0 i1)
    omega
  · refine Or.inr ⟨e1, e2, of_decide_eq_true e3, fun i i0 i1 => ?_⟩
    have := of_decide_eq_false (e4 i i0 i1)
    omega
theorem ms_succ {n : Int} (h : 0 ≤ n) (hf : 0 ≤ f) (hL : f ≤ L) : msF B L f k (n + 1) = if 4 < toF B L (wpF B L f k n) - wpF B L f k n ∧ msF B L f k n = -1 then wpF B L f k n else msF B L f k n := by
  have kr := kk_rg k
  unfold msF
  rw [fiZ_succ h]
  rcases fiZ_spec n (lgB B L f k) with ⟨e1, e2⟩ | ⟨e1, e2, e3, e4⟩
  · rw [if_pos e1]
    by_cases c : lgB B L f k n = true
    · have c2 : 4 < toF B L (wpF B L f k n) - wpF B L f k n := of_decide_eq_true c
      simp only [if_pos c, if_pos e1]
      rw [if_neg (by omega), if_pos ⟨c2, trivial⟩]
    · have c2 : ¬ 4 < toF B L (wpF B L f k n) - wpF B L f k n := fun q => c (decide_eq_true q)
      simp only [if_neg c, if_pos e1]
      rw [if_pos trivial, if_neg (fun q => c2 q.1)]
  · have e5 : ¬ fiZ n (lgB B L f k) = -1 := by omega
    simp only [if_neg e5]
    have a : f ≤ wpF B L f k (fiZ n (lgB B L f k)) := (tk_rg (B := B) hL (by omega)).1
    rw [if_neg (fun q => by omega)]
end EX
