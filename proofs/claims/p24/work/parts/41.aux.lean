/-! the law's helpers, in numbers -/
abbrev LAs (D : xD) (G : xG) (σ : Sg) : Prop := LA D G (pf σ) (hf σ) (wf σ) (tf σ) (cf σ) (mf σ)
abbrev pm (n : Nat) : Int32 := nI n - nI 1
theorem pm_0 : pm 0 = -1 := by decide +kernel
theorem pm_s (k : Nat) : pm (k + 1) = nI k := pk_sub (a := k + 1) (b := 1) (by omega)
theorem pm_d (k : Nat) : nI k + Int32.ofInt (-1) = pm k := by
  cases k with
  | zero => decide +kernel
  | succ k => rw [pm_s]; exact pk_m1 k
theorem LI.pb {σ : Sg} (hI : LI σ) {i : Nat} (hi : i < 8) : σ 1 i < 4 ∧ σ 2 i < 2 := by
  obtain ⟨h1, h2, -⟩ := hI.1.2.2.1 i (by rw [hI.2.1]; exact hi)
  exact ⟨h1, h2⟩
def Cn (P : Nat → Prop) (n k : Nat) : Prop := (0 < n) ↔ ∃ j, j < k ∧ P j
theorem Cn_0 (P : Nat → Prop) : Cn P 0 0 := ⟨fun h => absurd h (Nat.lt_irrefl 0), fun ⟨j, h, _⟩ => by omega⟩
theorem Cn_no {n k : Nat} {P : Nat → Prop} (h : Cn P n k) (hn : ¬ P k) : Cn P (n + 0) (k + 1) := by
  unfold Cn at h ⊢
  rw [Nat.add_zero, h]
  constructor
  · rintro ⟨j, h1, h2⟩; exact ⟨j, by omega, h2⟩
  · rintro ⟨j, h1, h2⟩
    by_cases hj : j = k
    · exact absurd (hj ▸ h2) hn
    · exact ⟨j, by omega, h2⟩
theorem Cn_yes {n k : Nat} {P : Nat → Prop} (hp : P k) : Cn P (n + 1) (k + 1) := ⟨fun _ => ⟨k, by omega, hp⟩, fun _ => by omega⟩
theorem Cn_t {n k : Nat} {P : Nat → Prop} (h : Cn P n k) (hn : 0 < n) : ∃ j, j < k ∧ P j := h.mp hn
theorem Cn_f {n k : Nat} {P : Nat → Prop} (h : Cn P n k) (hn : n = 0) {j : Nat} (hj : j < k) : ¬ P j := fun hp => by have := h.mpr ⟨j, hj, hp⟩; omega
theorem ttl_yes {σ : Sg} {i : Nat} {o : Nat → Nat} {n k T : Nat} (hk : 0 < k) (h : ttl σ i o n (k - 1) T) (hb : brO σ i o n k T) : ttl σ i o n k (σ 13 (8 * i + o k)) := by
  obtain ⟨q, rfl⟩ : ∃ q, k = q + 1 := ⟨k - 1, by omega⟩
  exact ⟨T, h, Or.inl ⟨hb, rfl⟩⟩
theorem ttl_not {σ : Sg} {i : Nat} {o : Nat → Nat} {n k T : Nat} (hk : 0 < k) (h : ttl σ i o n (k - 1) T) (hb : ¬ brO σ i o n k T) : ttl σ i o n k T := by
  obtain ⟨q, rfl⟩ : ∃ q, k = q + 1 := ⟨k - 1, by omega⟩
  exact ⟨T, h, Or.inr ⟨hb, rfl⟩⟩
theorem x_addI {x y : Int32} (h1 : -2147483648 ≤ x.toInt + y.toInt) (h2 : x.toInt + y.toInt < 2147483648) : (x + y).toInt = x.toInt + y.toInt := by
  rw [Int32.toInt_add, Int.bmod_def]
  split <;> omega
