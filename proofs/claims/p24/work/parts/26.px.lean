/-! which exception leaves a call -/
def pxk (g : Nat → Prop) (E1 E2 E3 E : String) : Prop := ∃ k, g k ∧ ((k = 1 ∧ E = E1) ∨ (k = 2 ∧ E = E2) ∨ (k = 3 ∧ E = E3))
theorem px1 {P Q R : Prop} {E1 E2 E3 E : String} (h : ¬ P) (he : E = E1) : pxk (gk P Q R) E1 E2 E3 E := ⟨1, Or.inl ⟨h, rfl⟩, Or.inl ⟨rfl, he⟩⟩
theorem px2 {P Q R : Prop} {E1 E2 E3 E : String} (hp : P) (h : ¬ Q) (he : E = E2) : pxk (gk P Q R) E1 E2 E3 E := ⟨2, Or.inr (Or.inl ⟨hp, h, rfl⟩), Or.inr (Or.inl ⟨rfl, he⟩)⟩
theorem px3 {P Q R : Prop} {E1 E2 E3 E : String} (hp : P) (hq : Q) (h : ¬ R) (he : E = E3) : pxk (gk P Q R) E1 E2 E3 E := ⟨3, Or.inr (Or.inr (Or.inr ⟨hp, hq, h, rfl⟩)), Or.inr (Or.inr ⟨rfl, he⟩)⟩
theorem pP_of {σ : Sg} {i : Nat} (h : i < σ 5 0) (h5 : σ 5 0 ≤ 12) : pP σ (nI i) := by unfold pP; rw [nI_toInt (by omega)]; omega
theorem pT_of {σ : Sg} {i : Nat} (h : i < σ 12 0) (h5 : σ 12 0 ≤ 10) : pT σ (nI i) := by unfold pT; rw [nI_toInt (by omega)]; omega
theorem pS_of {σ : Sg} {i k : Nat} (h : i < σ 12 0) (h5 : σ 12 0 ≤ 10) (hk : k < σ 11 i) (h8 : σ 11 i ≤ 8) : pS σ (nI i) (nI k) := by
  refine ⟨pT_of h h5, ?_⟩
  rw [xn_nI (by omega), nI_toInt (by omega)]
  omega
theorem J_mod (i k : Nat) (h : k < 8) : (8 * i + k) % 8 = k := by omega
