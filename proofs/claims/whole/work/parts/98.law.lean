theorem law_runs : ∀ (L : Nat) (xs : Nat → Int32), L ≤ 3584 → ∃ hF : Hp, Ev M_L_law [aA 1] (hp0 L xs) (some (aI 1), hF) ∧ hTop hF ≤ 3000 ∧ hUsed hF ≤ 400000 := law_all
