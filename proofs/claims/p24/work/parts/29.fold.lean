/-! A CELL OF THE CLASS IS WRITTEN: the world again, by the new numbers -/
def tup (τ : Tg) (r i : Nat) (v : Option Nat) : Tg := fun r' i' => if r' = r ∧ i' = i then v else τ r' i'
theorem tup_self (τ : Tg) (r i : Nat) (v : Option Nat) : tup τ r i v r i = v := by simp [tup]
theorem tup_ne (τ : Tg) {r i r' i' : Nat} {v : Option Nat} (h : ¬ (r' = r ∧ i' = i)) : tup τ r i v r' i' = τ r' i' := by simp [tup, h]
section XF
variable (G0 : xG) (D : xD) (xa : xA) {σ σ' : Sg} {τ τ' : Tg}
theorem xg_fold {k i : Nat} {e : va_E} (hk : k < 20) (h1 : xE D xa σ' τ' k i = some e) (h2 : ∀ k' i', ¬ (k' = k ∧ i' = i) → xE D xa σ' τ' k' i' = xE D xa σ τ k' i') : xup (xGs G0 D xa σ τ) k i e = xGs G0 D xa σ' τ' := by
  funext k' i'
  by_cases h : k' = k ∧ i' = i
  · obtain ⟨rfl, rfl⟩ := h
    rw [xup_self]
    unfold xGs
    rw [if_pos hk, h1]
  · rw [xup_ne _ _ h]
    unfold xGs
    rw [h2 k' i' h]

theorem xf_dead {i v : Nat} (hi : i < σ 5 0) : xup (xGs G0 D xa σ τ) 10 i (.inr (1, (pfs xa σ τ i).set 2 (.int (nI v)))) = xGs G0 D xa (sup σ 2 i v) (τ) := by
  refine xg_fold G0 D xa (by omega) ?_ ?_
  · unfold xE
    try dsimp only
    rw [if_pos (show i < (sup σ 2 i v) 5 0 from hi)]
    unfold pfs
    rw [sup_self]
    rfl
  · intro k' i' h
    unfold xE
    split <;> first | rfl | (have hh : ¬ (2 = 2 ∧ i' = i) := fun h2 => h ⟨rfl, h2.2⟩
                             unfold pfs; rw [sup_ne σ hh]; try rfl)

theorem xf_marks {i v : Nat} (hi : i < σ 12 0) : xup (xGs G0 D xa σ τ) 13 i (.inr (3, (tfs xa σ τ i).set 0 (.int (nI v)))) = xGs G0 D xa (sup σ 9 i v) (τ) := by
  refine xg_fold G0 D xa (by omega) ?_ ?_
  · unfold xE
    try dsimp only
    rw [if_pos (show i < (sup σ 9 i v) 12 0 from hi)]
    unfold tfs
    rw [sup_self]
    rfl
  · intro k' i' h
    unfold xE
    split <;> first | rfl | (have hh : ¬ (9 = 9 ∧ i' = i) := fun h2 => h ⟨rfl, h2.2⟩
                             unfold tfs; rw [sup_ne σ hh]; try rfl)

theorem xf_reb {i v : Nat} (hi : lvS σ i) : xup (xGs G0 D xa σ τ) 15 i (.inr (2, (sfs xa σ τ i).set 5 (.int (nI v)))) = xGs G0 D xa (sup σ 17 i v) (τ) := by
  refine xg_fold G0 D xa (by omega) ?_ ?_
  · unfold xE
    try dsimp only
    rw [if_pos (show (i / 8 < (sup σ 17 i v) 12 0 ∧ i % 8 < (sup σ 17 i v) 11 (i / 8)) from hi)]
    unfold sfs
    rw [sup_self]
    rfl
  · intro k' i' h
    unfold xE
    split <;> first | rfl | (have hh : ¬ (17 = 17 ∧ i' = i) := fun h2 => h ⟨rfl, h2.2⟩
                             unfold sfs; rw [sup_ne σ hh]; try rfl)

theorem xf_set {i v : Nat} (hi : lvS σ i) : xup (xGs G0 D xa σ τ) 15 i (.inr (2, (sfs xa σ τ i).set 6 (.int (nI v)))) = xGs G0 D xa (sup σ 18 i v) (τ) := by
  refine xg_fold G0 D xa (by omega) ?_ ?_
  · unfold xE
    try dsimp only
    rw [if_pos (show (i / 8 < (sup σ 18 i v) 12 0 ∧ i % 8 < (sup σ 18 i v) 11 (i / 8)) from hi)]
    unfold sfs
    rw [sup_self]
    rfl
  · intro k' i' h
    unfold xE
    split <;> first | rfl | (have hh : ¬ (18 = 18 ∧ i' = i) := fun h2 => h ⟨rfl, h2.2⟩
                             unfold sfs; rw [sup_ne σ hh]; try rfl)

theorem xf_title {i : Nat} {v : Option Nat} (hi : i < σ 5 0) : xup (xGs G0 D xa σ τ) 10 i (.inr (1, (pfs xa σ τ i).set 5 (va_rf (v.map (xa 10))))) = xGs G0 D xa σ (tup τ 0 i v) := by
  refine xg_fold G0 D xa (by omega) ?_ ?_
  · unfold xE
    try dsimp only
    rw [if_pos (show i < σ 5 0 from hi)]
    unfold pfs
    rw [tup_self]
    rfl
  · intro k' i' h
    unfold xE
    split <;> first | rfl | (have hh : ¬ (0 = 0 ∧ i' = i) := fun h2 => h ⟨rfl, h2.2⟩
                             unfold pfs; rw [tup_ne τ hh]; try rfl)

theorem xf_first {i : Nat} {v : Option Nat} (hi : i < σ 12 0) : xup (xGs G0 D xa σ τ) 13 i (.inr (3, (tfs xa σ τ i).set 4 (va_rf (v.map (xa 15))))) = xGs G0 D xa σ (tup τ 1 i v) := by
  refine xg_fold G0 D xa (by omega) ?_ ?_
  · unfold xE
    try dsimp only
    rw [if_pos (show i < σ 12 0 from hi)]
    unfold tfs
    rw [tup_self]
    rfl
  · intro k' i' h
    unfold xE
    split <;> first | rfl | (have hh : ¬ (1 = 1 ∧ i' = i) := fun h2 => h ⟨rfl, h2.2⟩
                             unfold tfs; rw [tup_ne τ hh]; try rfl)

theorem xf_last {i : Nat} {v : Option Nat} (hi : i < σ 12 0) : xup (xGs G0 D xa σ τ) 13 i (.inr (3, (tfs xa σ τ i).set 5 (va_rf (v.map (xa 15))))) = xGs G0 D xa σ (tup τ 2 i v) := by
  refine xg_fold G0 D xa (by omega) ?_ ?_
  · unfold xE
    try dsimp only
    rw [if_pos (show i < σ 12 0 from hi)]
    unfold tfs
    rw [tup_self]
    rfl
  · intro k' i' h
    unfold xE
    split <;> first | rfl | (have hh : ¬ (2 = 2 ∧ i' = i) := fun h2 => h ⟨rfl, h2.2⟩
                             unfold tfs; rw [tup_ne τ hh]; try rfl)

theorem xf_ahead {i : Nat} {v : Option Nat} (hi : lvS σ i) : xup (xGs G0 D xa σ τ) 15 i (.inr (2, (sfs xa σ τ i).set 7 (va_rf (v.map (xa 15))))) = xGs G0 D xa σ (tup τ 3 i v) := by
  refine xg_fold G0 D xa (by omega) ?_ ?_
  · unfold xE
    try dsimp only
    rw [if_pos (show (i / 8 < σ 12 0 ∧ i % 8 < σ 11 (i / 8)) from hi)]
    unfold sfs
    rw [tup_self]
    rfl
  · intro k' i' h
    unfold xE
    split <;> first | rfl | (have hh : ¬ (3 = 3 ∧ i' = i) := fun h2 => h ⟨rfl, h2.2⟩
                             unfold sfs; rw [tup_ne τ hh]; try rfl)

theorem xf_next {i : Nat} {v : Option Nat} (hi : lvS σ i) : xup (xGs G0 D xa σ τ) 15 i (.inr (2, (sfs xa σ τ i).set 8 (va_rf (v.map (xa 15))))) = xGs G0 D xa σ (tup τ 4 i v) := by
  refine xg_fold G0 D xa (by omega) ?_ ?_
  · unfold xE
    try dsimp only
    rw [if_pos (show (i / 8 < σ 12 0 ∧ i % 8 < σ 11 (i / 8)) from hi)]
    unfold sfs
    rw [tup_self]
    rfl
  · intro k' i' h
    unfold xE
    split <;> first | rfl | (have hh : ¬ (4 = 4 ∧ i' = i) := fun h2 => h ⟨rfl, h2.2⟩
                             unfold sfs; rw [tup_ne τ hh]; try rfl)

theorem xf_year {v : Nat} : xup (xGs G0 D xa σ τ) 0 0 (.inr (4, (xfs xa σ).set 5 (.int (nI v)))) = xGs G0 D xa (sup σ 0 0 v) τ := by
  refine xg_fold G0 D xa (by omega) rfl ?_
  intro k' i' h
  unfold xE
  split <;> first | rfl | (rw [if_neg (fun h2 => h ⟨rfl, h2⟩), if_neg (fun h2 => h ⟨rfl, h2⟩)])
theorem xf_faith {a v : Nat} : xup (xGs G0 D xa σ τ) 3 0 (.inl (D.2 4, 5, .inl (upd (fun j => nI (σ 8 j)) a (nI v)))) = xGs G0 D xa (sup σ 8 a v) τ := by
  refine xg_fold G0 D xa (by omega) ?_ ?_
  · show some _ = some _
    congr 5
    funext x
    by_cases hx : x = a <;> simp [upd, sup, hx]
  · intro k' i' h
    unfold xE
    split <;> first | rfl | (rw [if_neg (fun h2 => h ⟨rfl, h2⟩), if_neg (fun h2 => h ⟨rfl, h2⟩)])
end XF
