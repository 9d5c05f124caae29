/-! heirs and titles, in numbers -/
def lifd (σ : Sg) (d : Nat) (o : Option Nat) : Option Nat := match o with
  | none => none
  | some i => if σ 2 i = 0 then some i else fh σ d i
theorem ff_past {f : Option Nat} {g : Nat → Option Nat} {k n : Nat} (h : f = ff g k (n - k)) (hk : n ≤ k) : f = ff g (k + 1) (n - (k + 1)) := by
  rw [ff_end h hk, show n - (k + 1) = 0 by omega]; rfl
theorem lifd_lt {σ : Sg} (hg : Gd σ) {d : Nat} {o : Option Nat} (ho : ∀ i, o = some i → i < σ 5 0) : ∀ a, lifd σ d o = some a → a < σ 5 0 := by
  intro a h
  cases o with
  | none => cases h
  | some i =>
    have hi := ho i rfl
    unfold lifd at h
    dsimp only at h
    split at h
    · cases h; exact hi
    · exact fh_lt hg d i a hi h
theorem od_surj {yr : Nat → Nat} : ∀ {n k : Nat}, k < n → ∃ q, q < n ∧ od yr n q = k
  | 0, k, h => by omega
  | n + 1, k, h => by
    have hp := ipl_le yr (od yr n) (yr n) n
    by_cases hk : k = n
    · exact ⟨ipl yr (od yr n) (yr n) n, by omega, by rw [od]; unfold insF; rw [if_neg (by omega), if_pos rfl, hk]⟩
    · obtain ⟨q, h1, h2⟩ := od_surj (yr := yr) (n := n) (k := k) (by omega)
      by_cases hq : q < ipl yr (od yr n) (yr n) n
      · exact ⟨q, by omega, by rw [od]; unfold insF; rw [if_pos hq, h2]⟩
      · exact ⟨q + 1, by omega, by rw [od]; unfold insF; rw [if_neg (by omega), if_neg (by omega), Nat.add_sub_cancel, h2]⟩
theorem insF_cases (o : Nat → Nat) (n p x : Nat) : (x < p ∧ insF o n p x = o x) ∨ (x = p ∧ insF o n p x = n) ∨ (p < x ∧ insF o n p x = o (x - 1)) := by
  unfold insF
  by_cases h : x < p
  · exact Or.inl ⟨h, by rw [if_pos h]⟩
  · by_cases h2 : x = p
    · exact Or.inr (Or.inl ⟨h2, by rw [if_neg h, if_pos h2]⟩)
    · exact Or.inr (Or.inr ⟨by omega, by rw [if_neg h, if_neg h2]⟩)
theorem od_inj {yr : Nat → Nat} : ∀ {n q q' : Nat}, q < n → q' < n → od yr n q = od yr n q' → q = q'
  | 0, q, q', h, _, _ => by omega
  | n + 1, q, q', h, h', he => by
    have hp := ipl_le yr (od yr n) (yr n) n
    rw [od] at he
    have lt : ∀ x, x < n → od yr n x < n := fun x hx => od_lt hx
    rcases insF_cases (od yr n) n (ipl yr (od yr n) (yr n) n) q with ⟨a, b⟩ | ⟨a, b⟩ | ⟨a, b⟩ <;> rcases insF_cases (od yr n) n (ipl yr (od yr n) (yr n) n) q' with ⟨a', b'⟩ | ⟨a', b'⟩ | ⟨a', b'⟩ <;> rw [b, b'] at he
    · exact od_inj (by omega) (by omega) he
    · have := lt q (by omega); omega
    · have := od_inj (by omega) (by omega) he; omega
    · have := lt q' (by omega); omega
    · omega
    · have := lt (q' - 1) (by omega); omega
    · have := od_inj (by omega) (by omega) he; omega
    · have := lt (q - 1) (by omega); omega
    · have := od_inj (by omega) (by omega) he; omega
theorem ttl_ex (σ : Sg) (i : Nat) (o : Nat → Nat) (n : Nat) : ∀ q, ∃ t, ttl σ i o n q t
  | 0 => ⟨_, rfl⟩
  | q + 1 => by
    obtain ⟨t, ht⟩ := ttl_ex σ i o n q
    by_cases h : brO σ i o n (q + 1) t
    · exact ⟨_, t, ht, Or.inl ⟨h, rfl⟩⟩
    · exact ⟨_, t, ht, Or.inr ⟨h, rfl⟩⟩
/-- x has the title behind place n - 1 - m: then y has it at the end -/
def ends (σ : Sg) (i : Nat) (o : Nat → Nat) (n : Nat) : Nat → Nat → Nat → Prop
  | 0, x, y => y = x
  | m + 1, x, y => ∃ x', ((brO σ i o n (n - 1 - m) x ∧ x' = σ 13 (8 * i + o (n - 1 - m))) ∨ (¬ brO σ i o n (n - 1 - m) x ∧ x' = x)) ∧ ends σ i o n m x' y
theorem ends_ttl {σ : Sg} {i : Nat} {o : Nat → Nat} {n : Nat} : ∀ {m x y : Nat}, m < n → ttl σ i o n (n - 1 - m) x → ends σ i o n m x y → ttl σ i o n (n - 1) y
  | 0, x, y, _, h, h1 => by rw [h1]; exact h
  | m + 1, x, y, hm, h, ⟨x', h1, h2⟩ => by
    refine ends_ttl (m := m) (x := x') (by omega) ?_ h2
    obtain ⟨q, hq⟩ : ∃ q, n - 1 - m = q + 1 := ⟨n - 1 - (m + 1), by omega⟩
    rw [hq] at h1 ⊢
    rw [show n - 1 - (m + 1) = q by omega] at h
    exact ⟨x, h, h1⟩
