/-! the title so far -/
def OwI (σ : Sg) (t k : Nat) (r ra : Option Nat) : Prop := (k = 0 ∧ r = none ∧ ra = none) ∨ (0 < k ∧ ∃ T, r = some T ∧ ra = some (σ 13 (8 * t + ordr σ t (k - 1))) ∧ ttl σ t (ordr σ t) (σ 11 t) (k - 1) T)
theorem OwI_0 (σ : Sg) (t : Nat) : OwI σ t 0 none none := Or.inl ⟨rfl, rfl, rfl⟩
theorem OwI_f {σ : Sg} {t k : Nat} (h : k = 0) : OwI σ t (k + 1) (some (σ 13 (8 * t + ordr σ t k))) (some (σ 13 (8 * t + ordr σ t k))) := by
  subst h
  exact Or.inr ⟨by omega, _, rfl, rfl, rfl⟩
theorem OwI_T {σ : Sg} {t k : Nat} {r ra : Option Nat} (h : OwI σ t k r ra) (hk : 0 < k) : ∃ T, r = some T ∧ ra = some (σ 13 (8 * t + ordr σ t (k - 1))) ∧ ttl σ t (ordr σ t) (σ 11 t) (k - 1) T := h.elim (fun z => by omega) (fun z => z.2)
theorem OwI_n {σ : Sg} {t k : Nat} {r ra : Option Nat} (h : OwI σ t k r ra) (hk : k = 0) : r = none ∧ ra = none := h.elim (fun z => z.2) (fun z => by omega)
theorem OwI_y {σ : Sg} {t k T : Nat} (hk : 0 < k) (h : ttl σ t (ordr σ t) (σ 11 t) (k - 1) T) (hb : brO σ t (ordr σ t) (σ 11 t) k T) : OwI σ t (k + 1) (some (σ 13 (8 * t + ordr σ t k))) (some (σ 13 (8 * t + ordr σ t k))) := Or.inr ⟨by omega, _, rfl, rfl, ttl_yes hk h hb⟩
theorem OwI_s {σ : Sg} {t k T : Nat} (hk : 0 < k) (h : ttl σ t (ordr σ t) (σ 11 t) (k - 1) T) (hb : ¬ brO σ t (ordr σ t) (σ 11 t) k T) : OwI σ t (k + 1) (some T) (some (σ 13 (8 * t + ordr σ t k))) := Or.inr ⟨by omega, _, rfl, rfl, ttl_not hk h hb⟩
