/-! the order: what the reference's two loops keep -/
theorem od_step {yr : Nat → Nat} {n a : Nat} {ρ : Nat → Nat} (ha : a ≤ n) (hA : ∀ q, q < a → ρ q = od yr n q) (hBq : ∀ q, a < q → q ≤ n → ρ q = od yr n (q - 1)) (hC : ipl yr (od yr n) (yr n) n = a) : ∀ q, q < n + 1 → rup ρ a n q = od yr (n + 1) q := by
  intro q hq
  rw [od, hC]
  unfold rup insF
  by_cases h1 : q = a
  · subst h1
    rw [if_pos rfl, if_neg (by omega), if_pos rfl]
  · rw [if_neg h1]
    by_cases h2 : q < a
    · rw [if_pos h2, hA q h2]
    · rw [if_neg h2, if_neg h1, hBq q (by omega) (by omega)]
theorem od_shift {yr : Nat → Nat} {n a : Nat} {ρ : Nat → Nat} (h0 : 0 < a) (hA : ∀ q, q < a → ρ q = od yr n q) (hBq : ∀ q, a < q → q ≤ n → ρ q = od yr n (q - 1)) : (∀ q, q < a - 1 → rup ρ a (od yr n (a - 1)) q = od yr n q) ∧ (∀ q, a - 1 < q → q ≤ n → rup ρ a (od yr n (a - 1)) q = od yr n (q - 1)) := by
  refine ⟨fun q hq => ?_, fun q h1 h2 => ?_⟩
  · unfold rup
    rw [if_neg (by omega)]
    exact hA q (by omega)
  · unfold rup
    by_cases h : q = a
    · rw [if_pos h, h]
    · rw [if_neg h]
      exact hBq q (by omega) h2
theorem ipl_go {yr o : Nat → Nat} {y a n : Nat} (h : ipl yr o y n = ipl yr o y a) (h0 : 0 < a) (hy : y < yr (o (a - 1))) : ipl yr o y n = ipl yr o y (a - 1) := by
  obtain ⟨b, rfl⟩ : ∃ b, a = b + 1 := ⟨a - 1, by omega⟩
  rw [h, ipl]
  rw [if_pos (by rw [show b + 1 - 1 = b by omega] at hy; exact hy)]
  rfl
theorem ipl_end {yr o : Nat → Nat} {y a n : Nat} (h : ipl yr o y n = ipl yr o y a) (he : a = 0 ∨ ¬ y < yr (o (a - 1))) : ipl yr o y n = a := by
  rw [h]
  cases a with
  | zero => rfl
  | succ b =>
    rcases he with he | he
    · omega
    · rw [show b + 1 - 1 = b by omega] at he
      rw [ipl, if_neg he]
