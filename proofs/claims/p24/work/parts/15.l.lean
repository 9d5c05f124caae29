/-! the order: what the reference's two loops keep -/
theorem od_step {yr : Nat → Nat} {n a : Nat} {ρ : Nat → Nat} (ha : a ≤ n) (hA : ∀ q, q < a → ρ q = od yr n q) (hBq : ∀ q, a < q → q ≤ n → ρ q = od yr n (q - 1)) (hC : ipl yr (od yr n) (yr n) n = a) : ∀ q, q < n + 1 → rup ρ a n q = od yr (n + 1) q := by
  intro q hq
  rw [od, hC]
  unfold rup insF
  by_cases h1 : q = a
  · subst h1
    rw [if_pos rfl, if_neg (by omega), if_pos rfl]
  · rw [if_neg h1]
    by_cases h2 : q < a
    · rw [if_pos h2, hA q h2]
    · rw [if_neg h2, if_neg h1, hBq q (by omega) (by omega)]
theorem od_shift {yr : Nat → Nat} {n a : Nat} {ρ : Nat → Nat} (h0 : 0 < a) (hA : ∀ q, q < a → ρ q = od yr n q) (hBq : ∀ q, a < q → q ≤ n → ρ q = od yr n (q - 1)) : (∀ q, q < a - 1 → rup ρ a (od yr n (a - 1)) q = od yr n q) ∧ (∀ q, a - 1 < q → q ≤ n → rup ρ a (od yr n (a - 1)) q = od yr n (q - 1)) := by
  refine ⟨fun q hq => ?_, fun q h1 h2 => ?_⟩
  · unfold rup
    rw [if_neg (by omega)]
    exact hA q (by omega)
  · unfold rup
    by_cases h : q = a
    · rw [if_pos h, h]
    · rw [if_neg h]
      exact hBq q (by omega) h2
theorem ipl_go {yr o : Nat → Nat} {y a n : Nat} (h : ipl yr o y n = ipl yr o y a) (h0 : 0 < a) (hy : y < yr (o (a - 1))) : ipl yr o y n = ipl yr o y (a - 1) := by
  obtain ⟨b, rfl⟩ : ∃ b, a = b + 1 := ⟨a - 1, by omega⟩
  rw [h, ipl]
  rw [if_pos (by rw [show b + 1 - 1 = b by omega] at hy; exact hy)]
  rfl
theorem ipl_end {yr o : Nat → Nat} {y a n : Nat} (h : ipl yr o y n = ipl yr o y a) (he : a = 0 ∨ ¬ y < yr (o (a - 1))) : ipl yr o y n = a := by
  rw [h]
  cases a with
  | zero => rfl
  | succ b =>
    rcases he with he | he
    · omega
    · rw [show b + 1 - 1 = b by omega] at he
      rw [ipl, if_neg he]
theorem oi_eq {r : Option Nat} {x : Nat} (hx : x < 2 ^ 31) (h : ∀ i, r = some i → i < 2 ^ 31) (he : oi r = nI x) : r = some x := by
  cases r with
  | none =>
    have h2 := congrArg Int32.toInt he
    rw [show oi none = -1 from rfl, x_tm1, nI_toInt hx] at h2
    omega
  | some i => rw [(nI_eq (h i rfl) hx).mp he]
theorem Gd.party {σ : Sg} (hg : Gd σ) {i k : Nat} (hi : i < σ 12 0) (hk : k < σ 11 i) : σ 13 (8 * i + k) < σ 5 0 := ((hg.2.2.2.2.1 i hi).2.2 k hk).1
theorem hold_lt {σ : Sg} (hg : Gd σ) {i a : Nat} (hi : i < σ 12 0) (h : hold σ i = some a) : a < σ 5 0 := by
  unfold hold at h
  split at h
  · cases h
  · cases h
    exact hg.party hi (ordr_lt (by omega))
theorem ttl_lt {σ : Sg} (hg : Gd σ) {i : Nat} (hi : i < σ 12 0) : ∀ {q t : Nat}, q < σ 11 i → ttl σ i (ordr σ i) (σ 11 i) q t → t < σ 5 0
  | 0, t, hq, h => by rw [h]; exact hg.party hi (ordr_lt hq)
  | q + 1, t, hq, ⟨t0, h0, h1⟩ => by
    rcases h1 with ⟨_, rfl⟩ | ⟨_, rfl⟩
    · exact hg.party hi (ordr_lt hq)
    · exact ttl_lt hg hi (by omega) h0
theorem own_lt {σ : Sg} (hg : Gd σ) {i a : Nat} {r : Option Nat} (hi : i < σ 12 0) (h : own σ i r) (hr : r = some a) : a < σ 5 0 := by
  rcases h with ⟨_, rfl⟩ | ⟨h0, t, ht, rfl⟩
  · cases hr
  · have h1 := ttl_lt hg hi (by omega) ht
    unfold lif at hr
    split at hr
    · cases hr; exact h1
    · exact fh_lt hg 3 t a h1 hr
