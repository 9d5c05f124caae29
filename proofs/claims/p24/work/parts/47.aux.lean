/-! what class and law are held to -/
section XJL
variable {p : Program} {l : Launch} {e : Env} {R : Room} {s : State} {m : MethodId} {args : Array Value} {below : List Frame} {meth : Method} {c : Code} {H : Heap} {locs : List Loc} {cells slots : Nat} {Q : State → Prop} {D : xD} {sa : Nat → Nat} {A : Nat → Prop} {xa : xA} {G : xG}
/-- several ways come to one place, with new locals -/
theorem x_joinL {g : JFrame} {nL mpc cells1 slots1 : Nat} {rest : List Value} {lv : List (Nat × Value)} (h : ∀ (H : Heap) (locs : List Loc) (ls : Array Slot), xW D sa A s xa G H locs → lv_has ls nL lv → W p l e R s m args below meth c H locs cells1 slots1 Q (F0 m mpc ls rest))
    (k : (∀ (H : Heap) (locs : List Loc) (ls : Array Slot), xW D sa A s xa G H locs → lv_has ls nL lv → W p l e R s m args below meth c H locs cells1 slots1 Q (F0 m mpc ls rest)) → W p l e R s m args below meth c H locs cells slots Q g) : W p l e R s m args below meth c H locs cells slots Q g := k h
end XJL
theorem pL_of {a : Nat} (h : a < 5) : pL (nI a) := by unfold pL; rw [nI_toInt (by omega)]; omega
theorem rg_of {n : Nat} {a b : Int} (h1 : a ≤ n) (h2 : (n : Int) ≤ b) (h3 : n < 2 ^ 31) : rg (nI n) a b := by unfold rg; rw [nI_toInt h3]; omega
theorem lst3 {σ : Sg} {t a b : Nat} (h : (t = 0 ∧ a = 1 ∧ b = 2) ∨ (t = 1 ∧ a = 0 ∧ b = 2) ∨ (t = 2 ∧ a = 0 ∧ b = 1)) : lst σ t 3 = if lk σ t a < lk σ t b then some b else some a := by
  rcases h with ⟨rfl, rfl, rfl⟩ | ⟨rfl, rfl, rfl⟩ | ⟨rfl, rfl, rfl⟩ <;> simp [lst]
  split <;> (rename_i h_; exact h_.symm)
theorem lst3_b {σ : Sg} {t a b : Nat} {x y : Int32} (h : (t = 0 ∧ a = 1 ∧ b = 2) ∨ (t = 1 ∧ a = 0 ∧ b = 2) ∨ (t = 2 ∧ a = 0 ∧ b = 1)) (hx : x.toInt = lk σ t b) (hy : y.toInt = lk σ t a) (hc : ¬ x.toInt ≤ y.toInt) : lst σ t 3 = some b := by
  rw [lst3 h, if_pos (by rw [← hx, ← hy]; omega)]
theorem lst3_a {σ : Sg} {t a b : Nat} {x y : Int32} (h : (t = 0 ∧ a = 1 ∧ b = 2) ∨ (t = 1 ∧ a = 0 ∧ b = 2) ∨ (t = 2 ∧ a = 0 ∧ b = 1)) (hx : x.toInt = lk σ t b) (hy : y.toInt = lk σ t a) (hc : x.toInt ≤ y.toInt) : lst σ t 3 = some a := by
  rw [lst3 h, if_neg (by rw [← hx, ← hy]; omega)]
theorem lossT_iff {σ : Sg} {t q : Nat} (hq : q < σ 11 t) : lossT σ t (ordr σ t q) ↔ lossO σ t (ordr σ t) q := by
  constructor
  · rintro ⟨q', h1, h2, h3⟩
    have := od_inj h1 hq h2
    rw [← this]; exact h3
  · exact fun h => ⟨q, hq, rfl, h⟩
theorem cnt_y {σ : Sg} {x k n : Nat} {r : Option Nat} (h : cnt σ x k n) (ho : own σ k r) (h1 : r = some x) (h2 : ¬ hold σ k = some x) : cnt σ x (k + 1) (n + 1) := ⟨n, r, h, ho, Or.inl ⟨h1, h2, rfl⟩⟩
theorem cnt_n1 {σ : Sg} {x k n : Nat} {r : Option Nat} (h : cnt σ x k n) (ho : own σ k r) (h1 : ¬ r = some x) : cnt σ x (k + 1) (n + 0) := ⟨n, r, h, ho, Or.inr ⟨fun z => h1 z.1, rfl⟩⟩
theorem cnt_n2 {σ : Sg} {x k n : Nat} {r : Option Nat} (h : cnt σ x k n) (ho : own σ k r) (h2 : hold σ k = some x) : cnt σ x (k + 1) (n + 0) := ⟨n, r, h, ho, Or.inr ⟨fun z => z.2 h2, rfl⟩⟩
theorem cnt_le {σ : Sg} {x : Nat} : ∀ {k n : Nat}, cnt σ x k n → n ≤ k
  | 0, n, h => by rw [show n = 0 from h]; exact Nat.le_refl _
  | k + 1, n, ⟨c0, r, h, _, h2⟩ => by
    have := cnt_le h
    rcases h2 with ⟨_, _, rfl⟩ | ⟨_, rfl⟩ <;> omega
