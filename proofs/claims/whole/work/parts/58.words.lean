/-! PURE PART: words by letters, each once -/
def poW (c : Int) (f : Int → Int) (w : Int) : Int := if fiZ c (fun i => decide (wide w ≤ wide (f i))) = -1 then c else fiZ c (fun i => decide (wide w ≤ wide (f i)))
theorem poW_spec {c : Int} {f : Int → Int} {w : Int} (hc : 0 ≤ c) : 0 ≤ poW c f w ∧ poW c f w ≤ c ∧ (∀ i, 0 ≤ i → i < poW c f w → wide (f i) < wide w) ∧ (poW c f w < c → wide w ≤ wide (f (poW c f w))) := by
  unfold poW
  rcases fiZ_spec c (fun i => decide (wide w ≤ wide (f i))) with ⟨e1, e2⟩ | ⟨e1, e2, e3, e4⟩
  · rw [if_pos e1]
    refine ⟨hc, Int.le_refl c, fun i i0 i1 => ?_, fun q => by omega⟩
    have := e2 i i0 i1
    simpa using this
  · rw [if_neg (by omega)]
    refine ⟨e1, by omega, fun i i0 i1 => ?_, fun _ => by simpa using e3⟩
    have := e4 i i0 i1
    simpa using this
def haW (c : Int) (f : Int → Int) (w : Int) : Bool := decide (poW c f w < c) && decide (f (poW c f w) = w)
def shW (k w : Int) (f : Int → Int) : Int → Int := fun i => if i < k then f i else if i = k then w else f (i - 1)
/-- the words of the first n of a row -/
def WL (g : Nat → Int) : Nat → Int × (Int → Int)
  | 0 => (0, fun _ => 0)
  | n + 1 => if haW (WL g n).1 (WL g n).2 (g n) = true then WL g n else ((WL g n).1 + 1, shW (poW (WL g n).1 (WL g n).2 (g n)) (g n) (WL g n).2)
/-- in order, and just these -/
def GWl (g : Nat → Int) (n : Nat) (c : Int) (f : Int → Int) : Prop := (0 ≤ c ∧ c ≤ n) ∧ (∀ i, 0 ≤ i → i < c → ∃ t : Nat, t < n ∧ f i = g t) ∧ (∀ t : Nat, t < n → ∃ i, 0 ≤ i ∧ i < c ∧ f i = g t) ∧ (∀ i j, 0 ≤ i → i < j → j < c → wide (f i) < wide (f j))
theorem haW_iff {c : Int} {f : Int → Int} {w : Int} (hc : 0 ≤ c) (ho : ∀ i j, 0 ≤ i → i < j → j < c → wide (f i) < wide (f j)) : haW c f w = true ↔ ∃ i, 0 ≤ i ∧ i < c ∧ f i = w := by
  have hp := poW_spec (f := f) (w := w) hc
  unfold haW
  rw [Bool.and_eq_true, decide_eq_true_eq, decide_eq_true_eq]
  constructor
  · rintro ⟨h1, h2⟩
    exact ⟨_, hp.1, h1, h2⟩
  · rintro ⟨i, i0, i1, h2⟩
    have h3 : poW c f w = i := by
      by_cases h4 : i < poW c f w
      · have := hp.2.2.1 i i0 h4
        rw [h2] at this
        omega
      · by_cases h5 : poW c f w < i
        · have h6 := ho _ i hp.1 h5 i1
          have h7 := hp.2.2.2 (by omega)
          rw [h2] at h6
          omega
        · omega
    rw [h3]
    exact ⟨i1, h2⟩
theorem GWl_all {g : Nat → Int} {N : Nat} (hg : ∀ t, t < N → wrg (g t)) : ∀ n, n ≤ N → GWl g n (WL g n).1 (WL g n).2 := by
  intro n
  induction n with
  | zero => exact fun _ => ⟨⟨Int.le_refl 0, Int.le_refl 0⟩, fun i h1 h2 => absurd h2 (by show ¬ i < 0; omega), fun t ht => absurd ht (by omega), fun i j h1 h2 h3 => absurd h3 (by show ¬ j < 0; omega)⟩
  | succ n ih =>
    intro hn
    obtain ⟨h1, h2, h3, h4⟩ := ih (by omega)
    have hw := hg n (by omega)
    have hp := poW_spec (f := (WL g n).2) (w := g n) h1.1
    have hi := haW_iff (w := g n) h1.1 h4
    show GWl g (n + 1) (if haW (WL g n).1 (WL g n).2 (g n) = true then WL g n else ((WL g n).1 + 1, shW (poW (WL g n).1 (WL g n).2 (g n)) (g n) (WL g n).2)).1 (if haW (WL g n).1 (WL g n).2 (g n) = true then WL g n else ((WL g n).1 + 1, shW (poW (WL g n).1 (WL g n).2 (g n)) (g n) (WL g n).2)).2
    cases hh : haW (WL g n).1 (WL g n).2 (g n)
    · rw [if_neg (by decide)]
      have hno : ∀ i, 0 ≤ i → i < (WL g n).1 → (WL g n).2 i ≠ g n := fun i i0 i1 q => by
        rw [hi.mpr ⟨i, i0, i1, q⟩] at hh
        cases hh
      generalize hcd : (WL g n).1 = c at *
      generalize hfd : (WL g n).2 = f at *
      generalize hpd : poW c f (g n) = p at *
      have hstrict : ∀ i, p ≤ i → i < c → wide (g n) < wide (f i) := by
        intro i i0 i1
        have q1 : wide (g n) ≤ wide (f i) := by
          by_cases q2 : p = i
          · rw [← q2]
            exact hp.2.2.2 (by omega)
          · have := h4 p i hp.1 (by omega) i1
            have := hp.2.2.2 (by omega)
            omega
        have q3 : wide (g n) ≠ wide (f i) := by
          intro q
          obtain ⟨t, ht, ft⟩ := h2 i (by omega) i1
          have hwt := hg t (by omega)
          rw [ft, wide_eq hw hwt] at q
          exact hno i (by omega) i1 (ft.trans q.symm)
        omega
      refine ⟨⟨by dsimp only; omega, by dsimp only; omega⟩, fun i i0 i1 => ?_, fun t ht => ?_, fun i j i0 ij j1 => ?_⟩
      · dsimp only at i1
        show ∃ t : Nat, t < n + 1 ∧ (if i < p then f i else if i = p then g n else f (i - 1)) = g t
        by_cases q1 : i < p
        · rw [if_pos q1]
          obtain ⟨t, ht, ft⟩ := h2 i i0 (by omega)
          exact ⟨t, by omega, ft⟩
        · rw [if_neg q1]
          by_cases q2 : i = p
          · rw [if_pos q2]
            exact ⟨n, by omega, rfl⟩
          · rw [if_neg q2]
            obtain ⟨t, ht, ft⟩ := h2 (i - 1) (by omega) (by omega)
            exact ⟨t, by omega, ft⟩
      · show ∃ i, 0 ≤ i ∧ i < c + 1 ∧ (if i < p then f i else if i = p then g n else f (i - 1)) = g t
        by_cases q1 : t = n
        · subst q1
          exact ⟨p, hp.1, by omega, by rw [if_neg (by omega), if_pos rfl]⟩
        · obtain ⟨i, i0, i1, fi⟩ := h3 t (by omega)
          by_cases q2 : i < p
          · exact ⟨i, i0, by omega, by rw [if_pos q2]; exact fi⟩
          · exact ⟨i + 1, by omega, by omega, by rw [if_neg (by omega), if_neg (by omega), show i + 1 - 1 = i by omega]; exact fi⟩
      · dsimp only at j1
        show wide (if i < p then f i else if i = p then g n else f (i - 1)) < wide (if j < p then f j else if j = p then g n else f (j - 1))
        by_cases q1 : i < p
        · rw [if_pos q1]
          by_cases q2 : j < p
          · rw [if_pos q2]
            exact h4 i j i0 ij (by omega)
          · rw [if_neg q2]
            by_cases q3 : j = p
            · rw [if_pos q3]
              exact hp.2.2.1 i i0 q1
            · rw [if_neg q3]
              exact h4 i (j - 1) i0 (by omega) (by omega)
        · rw [if_neg q1, if_neg (show ¬ j < p by omega), if_neg (show ¬ j = p by omega)]
          by_cases q2 : i = p
          · rw [if_pos q2]
            exact hstrict (j - 1) (by omega) (by omega)
          · rw [if_neg q2]
            exact h4 (i - 1) (j - 1) (by omega) (by omega) (by omega)
    · rw [if_pos rfl]
      obtain ⟨i, i0, i1, fi⟩ := hi.mp hh
      refine ⟨⟨h1.1, by omega⟩, fun i i0 i1 => ?_, fun t ht => ?_, h4⟩
      · obtain ⟨t, ht, ft⟩ := h2 i i0 i1
        exact ⟨t, by omega, ft⟩
      · by_cases q1 : t = n
        · subst q1
          exact ⟨i, i0, i1, fi⟩
        · exact h3 t (by omega)
/-- the words of an archive -/
def gT (T : Int → Int) : Nat → Int := fun t => wdT T t
def wcN (T : Int → Int) (n : Nat) : Int := (WL (gT T) n).1
def wfN (T : Int → Int) (n : Nat) : Int → Int := (WL (gT T) n).2
def wcT (T : Int → Int) : Int := wcN T (T 5).toNat
def wfT (T : Int → Int) : Int → Int := wfN T (T 5).toNat
/-- the versions of all documents where a word is, as bits -/
def slN (T : Int → Int) (w : Int) : Nat → Nat
  | 0 => 0
  | n + 1 => slN T w n ||| (if wdT T n = w then stT T n * 2 ^ (owT T n * 10).toNat else 0)
def slT (T : Int → Int) (w : Int) : Nat := slN T w (T 5).toNat
section WO
variable {T : Int → Int}
theorem gT_wrg (W : AW T) : ∀ t : Nat, t < (T 5).toNat → wrg (gT T t) := by
  intro t ht
  have := W.2.2.2.2.2.2.2 t (by omega) (by have := W.n5; omega)
  exact ⟨this.2.2.1, this.2.2.2.1, this.2.2.2.2.1⟩
theorem GWl_T (W : AW T) {n : Nat} (hn : (n : Int) ≤ T 5) : GWl (gT T) n (wcN T n) (wfN T n) := GWl_all (gT_wrg W) n (by omega)
theorem wf_wrg (W : AW T) {n : Nat} (hn : (n : Int) ≤ T 5) {i : Int} (h0 : 0 ≤ i) (h1 : i < wcN T n) : wrg (wfN T n i) := by
  obtain ⟨t, ht, e⟩ := (GWl_T W hn).2.1 i h0 h1
  rw [e]
  exact gT_wrg W t (by omega)
theorem slN_lt (W : AW T) (w : Int) : ∀ n : Nat, (n : Int) ≤ T 5 → slN T w n < 2 ^ 40 := by
  intro n
  induction n with
  | zero => intro _; show (0 : Nat) < 2 ^ 40; decide
  | succ n ih =>
    intro hn
    show slN T w n ||| _ < 2 ^ 40
    refine Nat.or_lt_two_pow (ih (by omega)) ?_
    split
    · have h1 := stT_lt W (t := n) (by omega) (by omega)
      have h2 := W.2.2.2.2.2.2.2 n (by omega) (by omega)
      have h3 := W.n0
      have h4 : (owT T n * 10).toNat ≤ 30 := by omega
      have h5 : stT T n * 2 ^ (owT T n * 10).toNat < 2 ^ 10 * 2 ^ (owT T n * 10).toNat := Nat.mul_lt_mul_of_pos_right h1 (Nat.two_pow_pos _)
      rw [← Nat.pow_add] at h5
      exact Nat.lt_of_lt_of_le h5 (Nat.pow_le_pow_right (by decide) (by omega))
    · decide
theorem slN_zero {w : Int} : ∀ n : Nat, (∀ t : Nat, t < n → wdT T t ≠ w) → slN T w n = 0 := by
  intro n
  induction n with
  | zero => intro _; rfl
  | succ n ih =>
    intro h
    show slN T w n ||| _ = 0
    rw [ih (fun t ht => h t (by omega)), if_neg (h n (by omega))]
    rfl
theorem slN_bit {w : Int} (i : Nat) : ∀ n : Nat, (slN T w n).testBit i = true ↔ ∃ t : Nat, t < n ∧ wdT T t = w ∧ (owT T t * 10).toNat ≤ i ∧ (stT T t).testBit (i - (owT T t * 10).toNat) = true := by
  intro n
  induction n with
  | zero =>
    show (0 : Nat).testBit i = true ↔ _
    rw [Nat.zero_testBit]
    exact ⟨fun q => (by cases q), fun ⟨t, ht, _⟩ => absurd ht (by omega)⟩
  | succ n ih =>
    show (slN T w n ||| _).testBit i = true ↔ _
    rw [Nat.testBit_or, Bool.or_eq_true, ih]
    constructor
    · rintro (⟨t, h1, h2⟩ | h)
      · exact ⟨t, by omega, h2⟩
      · by_cases hw : wdT T n = w
        · rw [if_pos hw, Nat.testBit_mul_two_pow, Bool.and_eq_true, decide_eq_true_eq] at h
          exact ⟨n, by omega, hw, h.1, h.2⟩
        · rw [if_neg hw, Nat.zero_testBit] at h
          cases h
    · rintro ⟨t, h1, h2, h3, h4⟩
      by_cases ht : t = n
      · subst ht
        refine Or.inr ?_
        rw [if_pos h2, Nat.testBit_mul_two_pow, Bool.and_eq_true, decide_eq_true_eq]
        exact ⟨h3, h4⟩
      · exact Or.inl ⟨t, by omega, h2, h3, h4⟩
theorem ti_pos {d v w : Int} : 0 < tiT T d v w ↔ ∃ q, 0 ≤ q ∧ q < lnT T d v ∧ wdT T (rwT T d v q) = w := by
  constructor
  · intro h
    refine Classical.byContradiction (fun hn => ?_)
    have : tiT T d v w = 0 := sumZ_zero (fun q q0 q1 => by
      rw [decide_eq_false (fun z => hn ⟨q, q0, q1, z⟩)]
      rfl)
    omega
  · rintro ⟨q, q0, q1, z⟩
    unfold tiT
    have h1 : sumZ (lnT T d v) (fun q => b01 (decide (wdT T (rwT T d v q) = w))) = sumZ (q + 1 + (lnT T d v - (q + 1))) (fun q => b01 (decide (wdT T (rwT T d v q) = w))) := by rw [show q + 1 + (lnT T d v - (q + 1)) = lnT T d v by omega]
    rw [h1, sumZ_split (by omega) (by omega), sumZ_succ q0, decide_eq_true z]
    have h2 := sumZ_nonneg (n := q) (c := 1) (f := fun q => b01 (decide (wdT T (rwT T d v q) = w))) q0 (fun i _ _ => b01_rg _)
    have h3 := sumZ_nonneg (n := lnT T d v - (q + 1)) (c := 1) (f := fun i => b01 (decide (wdT T (rwT T d v (q + 1 + i)) = w))) (by omega) (fun i _ _ => b01_rg _)
    have h4 : b01 true = 1 := rfl
    omega
/-- the bits of a word: where it is -/
theorem sl_bit (W : AW T) {w i : Int} (h0 : 0 ≤ i) (h1 : i < 40) : bt (slT T w) i = (vbT T (i / 10) (i % 10) && decide (0 < tiT T (i / 10) (i % 10) w)) := by
  have h5 := W.n5
  have key : bt (slT T w) i = true ↔ (vbT T (i / 10) (i % 10) && decide (0 < tiT T (i / 10) (i % 10) w)) = true := by
    unfold bt slT
    rw [decide_eq_true h0, Bool.true_and, slN_bit, Bool.and_eq_true, decide_eq_true_eq, vbT_iff, ti_pos]
    constructor
    · rintro ⟨t, ht, hw, hle, hb⟩
      have ho := W.2.2.2.2.2.2.2 t (by omega) (by omega)
      unfold stT at hb
      rw [setN_bit, Bool.and_eq_true, decide_eq_true_eq] at hb
      have hn0 := W.n0
      have hn := W.nv (d := owT T t) ho.1 (by omega)
      have e1 : i / 10 = owT T t := by omega
      have e2 : i % 10 = ((i.toNat - (owT T t * 10).toNat : Nat) : Int) := by omega
      rw [e1, e2]
      obtain ⟨q, q0, q1, q2⟩ := inV_iff.mp hb.2
      exact ⟨⟨ho.1, ho.2.1, by omega, by omega⟩, q, q0, q1, by rw [q2]; exact hw⟩
    · rintro ⟨hv, q, q0, q1, q2⟩
      have hp : ppT T (i / 10) (i % 10) q := ⟨hv, q0, q1⟩
      have hr := W.rw hp
      refine ⟨(rwT T (i / 10) (i % 10) q).toNat, by omega, ?_, ?_, ?_⟩
      · rw [Int.toNat_of_nonneg hr.1]
        exact q2
      · rw [Int.toNat_of_nonneg hr.1, hr.2.2]
        omega
      · rw [Int.toNat_of_nonneg hr.1, hr.2.2]
        have := stT_at W hp
        rw [show i.toNat - (i / 10 * 10).toNat = (i % 10).toNat by omega]
        exact this
  cases hb : bt (slT T w) i
  · cases hc : (vbT T (i / 10) (i % 10) && decide (0 < tiT T (i / 10) (i % 10) w))
    · rfl
    · rw [key.mpr hc] at hb
      cases hb
  · exact (key.mp hb).symm
theorem slT_lt (W : AW T) (w : Int) : slT T w < 2 ^ 40 := slN_lt W w _ (by have := W.n5; omega)
end WO
