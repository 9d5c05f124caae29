/-! WHAT THE CALLS LEAVE (k: the code) -/
def t_person (σ : Sg) (x : Int32) (k : Nat) : Sg := if k = 0 then sup (sup σ 1 (σ 5 0) (xn x)) 5 0 (σ 5 0 + 1) else σ
def t_die (σ : Sg) (x : Int32) (k : Nat) : Sg := if k = 0 then sup σ 2 (xn x) 1 else σ
def t_heir (σ : Sg) (x y : Int32) (k : Nat) : Sg := if k = 0 then sup (sup σ 3 (12 * xn x + σ 4 (xn x)) (xn y)) 4 (xn x) (σ 4 (xn x) + 1) else σ
def t_persecution (σ : Sg) (g a f t : Int32) (k : Nat) : Sg := if k = 0 then sup (sup (sup (sup (sup σ 6 (4 * σ 7 0) (xn g)) 6 (4 * σ 7 0 + 1) (xn a)) 6 (4 * σ 7 0 + 2) (xn f)) 6 (4 * σ 7 0 + 3) (xn t)) 7 0 (σ 7 0 + 1) else σ
def t_faith (σ : Sg) (a y : Int32) (k : Nat) : Sg := if k = 0 then sup σ 8 (xn a) (xn y) else σ
def t_now (σ : Sg) (y : Int32) (k : Nat) : Sg := if k = 0 then sup σ 0 0 (xn y) else σ
def t_thing (σ : Sg) (mk sz : Int32) (k : Nat) : Sg := if k = 0 then sup (sup (sup σ 9 (σ 12 0) (xn mk)) 10 (σ 12 0) (xn sz)) 12 0 (σ 12 0 + 1) else σ
def mkv (m b is : Nat) : Nat := if is = 0 then m &&& (65535 ^^^ 2 ^ b) else m ||| 2 ^ b
def t_mark (σ : Sg) (t b : Int32) (is k : Nat) : Sg := if k = 0 then sup σ 9 (xn t) (mkv (σ 9 (xn t)) (xn b) is) else σ
def t_station (σ : Sg) (t p kd a y : Int32) (k : Nat) : Sg := if k = 0 then sup (sup (sup (sup (sup σ 13 (8 * xn t + σ 11 (xn t)) (xn p)) 14 (8 * xn t + σ 11 (xn t)) (xn kd)) 15 (8 * xn t + σ 11 (xn t)) (xn a)) 16 (8 * xn t + σ 11 (xn t)) (xn y)) 11 (xn t) (σ 11 (xn t) + 1) else σ
def t_rebut (σ : Sg) (t x : Int32) (is k : Nat) : Sg := if k = 0 then sup σ 17 (8 * xn t + xn x) is else σ
def t_settle (σ : Sg) (t x : Int32) (is k : Nat) : Sg := if k = 0 then sup σ 18 (8 * xn t + xn x) is else σ
theorem gk.zero {P Q R : Prop} (h : gk P Q R 0) : P ∧ Q ∧ R := by unfold gk at h; grind
theorem gk.mk0 {P Q R : Prop} (hp : P) (hq : Q) (hr : R) : gk P Q R 0 := Or.inr (Or.inr (Or.inl ⟨hp, hq, hr, rfl⟩))
theorem rg_in {x : Int32} {a b : Nat} (ha : a < 2 ^ 31) (hb : b < 2 ^ 31) : ((nI a).toInt ≤ x.toInt ∧ x.toInt ≤ (nI b).toInt) ↔ rg x a b := by unfold rg; rw [nI_toInt ha, nI_toInt hb]
theorem Gd.hm {σ : Sg} (hg : Gd σ) : ∀ i, σ 4 i < 12 := fun i => by
  by_cases h : i < σ 5 0
  · exact (hg.2.2.1 i h).2.2.1
  · rw [(hg.2.2.2.1 i (by omega)).2]; omega
theorem Gd.hs8 {σ : Sg} (hg : Gd σ) : ∀ i, σ 11 i ≤ 8 := fun i => by
  by_cases h : i < σ 12 0
  · exact (hg.2.2.2.2.1 i h).2.1
  · rw [hg.2.2.2.2.2.1 i (by omega)]; omega
