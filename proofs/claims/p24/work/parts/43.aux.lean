/-! likeness, in numbers -/
theorem lk_ab0 {a b : Nat} (h : (a : Int) < b) (ha : a ≤ 1000) (hb : b ≤ 1000) : (nI a - nI b).toInt = -(if (a : Int) - b < 0 then -((a : Int) - b) else (a : Int) - b) := by
  rw [pk_sub_toInt (by omega) (by omega)]
  split <;> omega
theorem lk_ab1 {a b : Nat} (h : ¬ (a : Int) < b) (ha : a ≤ 1000) (hb : b ≤ 1000) : (nI b - nI a).toInt = -(if (a : Int) - b < 0 then -((a : Int) - b) else (a : Int) - b) := by
  rw [pk_sub_toInt (by omega) (by omega)]
  split <;> omega
section LK
variable {its : Int32} {x y k : Nat} {ab : Int}
theorem pcn_s (x k : Nat) : pcn x (k + 1) = pcn x k + x / 2 ^ k % 2 := rfl
theorem lk_step2 (h : its.toInt = 10 * (pcn (x &&& y) k : Int) - 5 * (pcn (x ^^^ y) k : Int) - ab) (h1 : pcn (x &&& y) k ≤ k) (h2 : pcn (x ^^^ y) k ≤ k) (a0 : 0 ≤ ab) (a1 : ab ≤ 1000) (hk : k < 16 ∧ x / 2 ^ k % 2 + y / 2 ^ k % 2 = 2) (hb : (x / 2 ^ k % 2 + y / 2 ^ k % 2 = 2 ∧ (x &&& y) / 2 ^ k % 2 = 1 ∧ (x ^^^ y) / 2 ^ k % 2 = 0) ∨ (x / 2 ^ k % 2 + y / 2 ^ k % 2 = 1 ∧ (x &&& y) / 2 ^ k % 2 = 0 ∧ (x ^^^ y) / 2 ^ k % 2 = 1) ∨ (x / 2 ^ k % 2 + y / 2 ^ k % 2 = 0 ∧ (x &&& y) / 2 ^ k % 2 = 0 ∧ (x ^^^ y) / 2 ^ k % 2 = 0)) : (its + nI 10).toInt = 10 * (pcn (x &&& y) (k + 1) : Int) - 5 * (pcn (x ^^^ y) (k + 1) : Int) - ab := by
  have e : (nI 10).toInt = 10 := nI_toInt (by omega)
  rw [x_addI (by rw [e]; omega) (by rw [e]; omega), e, h, pcn_s, pcn_s]
  omega
theorem lk_step1 (h : its.toInt = 10 * (pcn (x &&& y) k : Int) - 5 * (pcn (x ^^^ y) k : Int) - ab) (h1 : pcn (x &&& y) k ≤ k) (h2 : pcn (x ^^^ y) k ≤ k) (a0 : 0 ≤ ab) (a1 : ab ≤ 1000) (hk : k < 16 ∧ x / 2 ^ k % 2 + y / 2 ^ k % 2 = 1) (hb : (x / 2 ^ k % 2 + y / 2 ^ k % 2 = 2 ∧ (x &&& y) / 2 ^ k % 2 = 1 ∧ (x ^^^ y) / 2 ^ k % 2 = 0) ∨ (x / 2 ^ k % 2 + y / 2 ^ k % 2 = 1 ∧ (x &&& y) / 2 ^ k % 2 = 0 ∧ (x ^^^ y) / 2 ^ k % 2 = 1) ∨ (x / 2 ^ k % 2 + y / 2 ^ k % 2 = 0 ∧ (x &&& y) / 2 ^ k % 2 = 0 ∧ (x ^^^ y) / 2 ^ k % 2 = 0)) : (its + (-5)).toInt = 10 * (pcn (x &&& y) (k + 1) : Int) - 5 * (pcn (x ^^^ y) (k + 1) : Int) - ab := by
  have e : (-5 : Int32).toInt = -5 := by decide +kernel
  rw [x_addI (by rw [e]; omega) (by rw [e]; omega), e, h, pcn_s, pcn_s]
  omega
theorem lk_step0 (h : its.toInt = 10 * (pcn (x &&& y) k : Int) - 5 * (pcn (x ^^^ y) k : Int) - ab) (h1 : pcn (x &&& y) k ≤ k) (h2 : pcn (x ^^^ y) k ≤ k) (a0 : 0 ≤ ab) (a1 : ab ≤ 1000) (hk : k < 16 ∧ x / 2 ^ k % 2 + y / 2 ^ k % 2 = 0) (hb : (x / 2 ^ k % 2 + y / 2 ^ k % 2 = 2 ∧ (x &&& y) / 2 ^ k % 2 = 1 ∧ (x ^^^ y) / 2 ^ k % 2 = 0) ∨ (x / 2 ^ k % 2 + y / 2 ^ k % 2 = 1 ∧ (x &&& y) / 2 ^ k % 2 = 0 ∧ (x ^^^ y) / 2 ^ k % 2 = 1) ∨ (x / 2 ^ k % 2 + y / 2 ^ k % 2 = 0 ∧ (x &&& y) / 2 ^ k % 2 = 0 ∧ (x ^^^ y) / 2 ^ k % 2 = 0)) : (its + nI 0).toInt = 10 * (pcn (x &&& y) (k + 1) : Int) - 5 * (pcn (x ^^^ y) (k + 1) : Int) - ab := by
  have e : (nI 0).toInt = 0 := nI_toInt (by omega)
  rw [x_addI (by rw [e]; omega) (by rw [e]; omega), e, h, pcn_s, pcn_s]
  omega
end LK
