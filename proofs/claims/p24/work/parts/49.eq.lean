/-! WHAT THE LAW WRITES IS WHAT THE CLASS WAS TOLD -/
theorem hq_congr {σ σ' : Sg} {i : Nat} : ∀ {n : Nat}, (∀ k, k < n → σ' 3 (12 * i + k) = σ 3 (12 * i + k)) → hq σ' i n = hq σ i n
  | 0, _ => rfl
  | n + 1, h => by
    show hq σ' i n + σ' 3 (12 * i + n) * 8 ^ n = hq σ i n + σ 3 (12 * i + n) * 8 ^ n
    rw [hq_congr (fun k hk => h k (by omega)), h n (by omega)]
theorem hf_congr {σ σ' : Sg} (e3 : σ' 3 = σ 3) (e4 : σ' 4 = σ 4) : hf σ' = hf σ := by
  funext j
  show lN (σ' 4 j + 16 * hq σ' j (σ' 4 j)) = lN (σ 4 j + 16 * hq σ j (σ 4 j))
  rw [e4, hq_congr (fun k _ => by rw [e3])]
theorem hf_c {σ σ' : Sg} (e3 : σ' 3 = σ 3) (e4 : σ' 4 = σ 4) : hf σ = hf σ' := (hf_congr e3 e4).symm
theorem LG_of {D : xD} {σ' : Sg} {p : Nat → Int32} {h : Nat → Int64} {w t c m : Nat → Int32} (e1 : p = pf σ') (e2 : h = hf σ') (e3 : w = wf σ') (e4 : t = tf σ') (e5 : c = cf σ') (e6 : m = mf σ') : LGf D p h w t c m = LG D σ' := by
  subst e1; subst e2; subst e3; subst e4; subst e5; subst e6; rfl
section UPS
variable (σ : Sg)
theorem pf_1 (i v : Nat) : pf (sup σ 1 i v) = upd (pf σ) i (nI (v + 8 * σ 2 i)) := by
  funext j
  unfold upd pf
  by_cases h : j = i
  · rw [if_pos h, h, sup_self]; rfl
  · rw [if_neg h, sup_ne _ (fun z => h z.2)]; rfl
theorem pf_2 (i v : Nat) : pf (sup σ 2 i v) = upd (pf σ) i (nI (σ 1 i + 8 * v)) := by
  funext j
  unfold upd pf
  by_cases h : j = i
  · rw [if_pos h, h, sup_self]; rfl
  · rw [if_neg h, sup_ne σ (j' := 2) (fun z => h z.2)]; rfl
theorem wf_6 (i v : Nat) : wf (sup σ 6 i v) = upd (wf σ) i (nI v) := by
  funext j
  unfold upd wf
  by_cases h : j = i
  · rw [if_pos h, h, sup_self]
  · rw [if_neg h, sup_ne _ (fun z => h z.2)]
theorem tf_9 (i v : Nat) : tf (sup σ 9 i v) = upd (tf σ) (2 * i) (nI v) := by
  funext j
  unfold upd tf tvv
  by_cases h : j = 2 * i
  · rw [if_pos h, h, if_pos (by omega), show 2 * i / 2 = i by omega, sup_self]
  · rw [if_neg h]
    by_cases h2 : j % 2 = 0
    · rw [if_pos h2, if_pos h2, sup_ne _ (fun z => h (by have := z.2; omega))]
    · rw [if_neg h2, if_neg h2]; rfl
theorem tf_10 (i v : Nat) : tf (sup σ 10 i v) = upd (tf σ) (2 * i + 1) (nI v) := by
  funext j
  unfold upd tf tvv
  by_cases h : j = 2 * i + 1
  · rw [if_pos h, h, if_neg (by omega), show (2 * i + 1) / 2 = i by omega, sup_self]
  · rw [if_neg h]
    by_cases h2 : j % 2 = 0
    · rw [if_pos h2, if_pos h2]; rfl
    · rw [if_neg h2, if_neg h2, sup_ne _ (fun z => h (by have := z.2; omega))]
theorem mf_0 (v : Nat) : mf (sup σ 0 0 v) = upd (mf σ) 0 (nI v) := by
  funext j
  unfold upd mf mv
  by_cases h : j = 0
  · rw [if_pos h, if_pos h, sup_self]
  · rw [if_neg h, if_neg h, if_neg h]; rfl
theorem mf_7 (v : Nat) : mf (sup σ 7 0 v) = upd (mf σ) 1 (nI v) := by
  funext j
  unfold upd mf mv
  by_cases h : j = 1
  · rw [if_pos h, if_neg (by omega), if_pos h, sup_self]
  · rw [if_neg h, if_neg h, if_neg h]; rfl
theorem mf_8 (a v : Nat) : mf (sup σ 8 a v) = upd (mf σ) (5 + a) (nI v) := by
  funext j
  unfold upd mf mv
  by_cases h : j = 5 + a
  · rw [if_pos h, if_neg (by omega), if_neg (by omega), if_neg (by omega), show j - 5 = a by omega, sup_self]
  · rw [if_neg h]
    by_cases h5 : j < 5
    · rw [if_pos h5, if_pos h5]; rfl
    · rw [if_neg h5, if_neg h5, sup_ne σ (j' := 8) (fun z => h (by have := z.2; omega))]; rfl
theorem mf_11 {t : Nat} (ht : t < 3) (v : Nat) : mf (sup σ 11 t v) = upd (mf σ) (2 + t) (nI v) := by
  funext j
  unfold upd mf mv
  by_cases h : j = 2 + t
  · rw [if_pos h, if_neg (by omega), if_neg (by omega), if_pos (by omega), show j - 2 = t by omega, sup_self]
  · rw [if_neg h]
    by_cases h0 : j = 0
    · rw [if_pos h0, if_pos h0]; rfl
    · rw [if_neg h0, if_neg h0]
      by_cases h1 : j = 1
      · rw [if_pos h1, if_pos h1]; rfl
      · rw [if_neg h1, if_neg h1, sup_ne _ (fun z => h (by have := z.2; omega))]; rfl
theorem cf_17 (J v : Nat) : cf (sup σ 17 J v) = upd (cf σ) J (nI (σ 13 J + 16 * σ 14 J + 256 * σ 15 J + 4096 * (σ 16 J - 1900) + 16777216 * v + 33554432 * σ 18 J)) := by
  funext j
  unfold upd cf cpv
  by_cases h : j = J
  · rw [if_pos h, h, sup_self]; rfl
  · rw [if_neg h, sup_ne σ (j' := 17) (fun z => h z.2)]; rfl
theorem cf_18 (J v : Nat) : cf (sup σ 18 J v) = upd (cf σ) J (nI (σ 13 J + 16 * σ 14 J + 256 * σ 15 J + 4096 * (σ 16 J - 1900) + 16777216 * σ 17 J + 33554432 * v)) := by
  funext j
  unfold upd cf cpv
  by_cases h : j = J
  · rw [if_pos h, h, sup_self]; rfl
  · rw [if_neg h, sup_ne σ (j' := 18) (fun z => h z.2)]; rfl
theorem cf_st (J p k a y : Nat) : cf (sup (sup (sup (sup σ 13 J p) 14 J k) 15 J a) 16 J y) = upd (cf σ) J (nI (p + 16 * k + 256 * a + 4096 * (y - 1900) + 16777216 * σ 17 J + 33554432 * σ 18 J)) := by
  funext j
  unfold upd cf cpv
  by_cases h : j = J
  · rw [if_pos h, h]
    rw [show sup (sup (sup (sup σ 13 J p) 14 J k) 15 J a) 16 J y 13 J = p from sup_self σ 13 J p, show sup (sup (sup (sup σ 13 J p) 14 J k) 15 J a) 16 J y 14 J = k from sup_self (sup σ 13 J p) 14 J k, show sup (sup (sup (sup σ 13 J p) 14 J k) 15 J a) 16 J y 15 J = a from sup_self (sup (sup σ 13 J p) 14 J k) 15 J a, sup_self]
    rfl
  · rw [if_neg h]
    rw [show sup (sup (sup (sup σ 13 J p) 14 J k) 15 J a) 16 J y 13 j = σ 13 j from sup_ne σ (fun z => h z.2), show sup (sup (sup (sup σ 13 J p) 14 J k) 15 J a) 16 J y 14 j = σ 14 j from sup_ne (sup σ 13 J p) (fun z => h z.2), show sup (sup (sup (sup σ 13 J p) 14 J k) 15 J a) 16 J y 15 j = σ 15 j from sup_ne (sup (sup σ 13 J p) 14 J k) (fun z => h z.2), sup_ne _ (fun z => h z.2)]
    rfl
end UPS
/-! bits of a station -/
theorem or_add {a b k : Nat} (h : b < 2 ^ k) : b ||| a * 2 ^ k = b + a * 2 ^ k := by
  rw [Nat.or_comm, Nat.mul_comm, ← Nat.two_pow_add_eq_or_of_lt h, Nat.add_comm]
theorem or4 {p k a y : Nat} (hp : p < 8) (hk : k < 6) (ha : a < 5) : ((p ||| k * 2 ^ 4) ||| a * 2 ^ 8) ||| y * 2 ^ 12 = p + 16 * k + 256 * a + 4096 * y := by
  rw [or_add (b := p) (k := 4) (by omega), or_add (k := 8) (by omega), or_add (k := 12) (by omega)]
  omega
theorem or_hi {c X k : Nat} (hX : X < 2 ^ k) {b : Nat} : (c * 2 ^ k + X) ||| b * 2 ^ k = (c ||| b) * 2 ^ k + X := by
  rw [Nat.mul_comm c, Nat.mul_comm b, Nat.mul_comm (c ||| b), Nat.two_pow_add_eq_or_of_lt hX, Nat.two_pow_add_eq_or_of_lt hX, Nat.or_assoc, Nat.or_comm X, ← Nat.or_assoc]
  congr 1
  apply Nat.eq_of_testBit_eq
  intro i
  simp only [Nat.testBit_or, Nat.testBit_two_pow_mul]
  by_cases h : k ≤ i <;> simp [h]
theorem and_lo {X k M : Nat} (hX : X < 2 ^ k) (hM : M % 2 ^ k = 2 ^ k - 1) : X &&& M = X := by
  apply Nat.eq_of_testBit_eq
  intro i
  rw [Nat.testBit_and]
  by_cases h : i < k
  · have h1 : M.testBit i = true := by
      have h2 : (M % 2 ^ k).testBit i = true := by rw [hM, Nat.testBit_two_pow_sub_one]; simp [h]
      rw [Nat.testBit_mod_two_pow] at h2
      simp [h] at h2
      exact h2
    rw [h1, Bool.and_true]
  · rw [Nat.testBit_lt_two_pow (Nat.lt_of_lt_of_le hX (Nat.pow_le_pow_right (by omega) (by omega))), Bool.false_and]
theorem and_hi {c X k M : Nat} (hX : X < 2 ^ k) (hM : M % 2 ^ k = 2 ^ k - 1) : (c * 2 ^ k + X) &&& M = (c * 2 ^ k &&& M) + X := by
  have e1 : (c * 2 ^ k + X) &&& M = (c * 2 ^ k &&& M) ||| X := by
    rw [Nat.mul_comm c, Nat.two_pow_add_eq_or_of_lt hX, Nat.and_or_distrib_right, and_lo hX hM]
  have e2 : c * 2 ^ k &&& M = 2 ^ k * (c &&& M / 2 ^ k) := by
    apply Nat.eq_of_testBit_eq
    intro i
    rw [Nat.mul_comm c, Nat.testBit_and, Nat.testBit_two_pow_mul, Nat.testBit_two_pow_mul, Nat.testBit_and, Nat.testBit_div_two_pow]
    by_cases h : k ≤ i
    · simp [h]
    · simp [h]
  rw [e1, e2, ← Nat.two_pow_add_eq_or_of_lt hX]
section CB
variable {σ : Sg} {J : Nat}
theorem cp_o24 (h : cpo σ J) : cpv σ J ||| 2 ^ 24 = σ 13 J + 16 * σ 14 J + 256 * σ 15 J + 4096 * (σ 16 J - 1900) + 16777216 * 1 + 33554432 * σ 18 J := by
  unfold cpo at h
  obtain ⟨X, hX⟩ : ∃ X, X = σ 13 J + 16 * σ 14 J + 256 * σ 15 J + 4096 * (σ 16 J - 1900) := ⟨_, rfl⟩
  have e0 : cpv σ J = (σ 17 J + 2 * σ 18 J) * 2 ^ 24 + X := by unfold cpv; omega
  have hXl : X < 2 ^ 24 := by omega
  have h1 := or_hi (c := σ 17 J + 2 * σ 18 J) (X := X) (k := 24) hXl (b := 1)
  rw [Nat.one_mul] at h1
  rw [e0, h1, ← hX]
  have key : (σ 17 J + 2 * σ 18 J) ||| 1 = 1 + 2 * σ 18 J := by
    rcases (show σ 17 J = 0 ∨ σ 17 J = 1 by omega) with a | a <;> rcases (show σ 18 J = 0 ∨ σ 18 J = 1 by omega) with b | b <;> rw [a, b] <;> decide
  rw [key]; omega
theorem cp_o25 (h : cpo σ J) : cpv σ J ||| 2 ^ 25 = σ 13 J + 16 * σ 14 J + 256 * σ 15 J + 4096 * (σ 16 J - 1900) + 16777216 * σ 17 J + 33554432 * 1 := by
  unfold cpo at h
  obtain ⟨X, hX⟩ : ∃ X, X = σ 13 J + 16 * σ 14 J + 256 * σ 15 J + 4096 * (σ 16 J - 1900) + 16777216 * σ 17 J := ⟨_, rfl⟩
  have e0 : cpv σ J = σ 18 J * 2 ^ 25 + X := by unfold cpv; omega
  have hXl : X < 2 ^ 25 := by omega
  have h1 := or_hi (c := σ 18 J) (X := X) (k := 25) hXl (b := 1)
  rw [Nat.one_mul] at h1
  rw [e0, h1, ← hX]
  have key : σ 18 J ||| 1 = 1 := by
    rcases (show σ 18 J = 0 ∨ σ 18 J = 1 by omega) with b | b <;> rw [b] <;> decide
  rw [key]; omega
theorem cp_a24 (h : cpo σ J) : cpv σ J &&& (2 ^ 24 ^^^ 4294967295) = σ 13 J + 16 * σ 14 J + 256 * σ 15 J + 4096 * (σ 16 J - 1900) + 16777216 * 0 + 33554432 * σ 18 J := by
  unfold cpo at h
  obtain ⟨X, hX⟩ : ∃ X, X = σ 13 J + 16 * σ 14 J + 256 * σ 15 J + 4096 * (σ 16 J - 1900) := ⟨_, rfl⟩
  have e0 : cpv σ J = (σ 17 J + 2 * σ 18 J) * 2 ^ 24 + X := by unfold cpv; omega
  have hXl : X < 2 ^ 24 := by omega
  rw [e0, and_hi (M := 2 ^ 24 ^^^ 4294967295) hXl (by decide +kernel), ← hX]
  have key : (σ 17 J + 2 * σ 18 J) * 2 ^ 24 &&& (2 ^ 24 ^^^ 4294967295) = 33554432 * σ 18 J := by
    rcases (show σ 17 J = 0 ∨ σ 17 J = 1 by omega) with a | a <;> rcases (show σ 18 J = 0 ∨ σ 18 J = 1 by omega) with b | b <;> rw [a, b] <;> decide +kernel
  rw [key]; omega
theorem cp_a25 (h : cpo σ J) : cpv σ J &&& (2 ^ 25 ^^^ 4294967295) = σ 13 J + 16 * σ 14 J + 256 * σ 15 J + 4096 * (σ 16 J - 1900) + 16777216 * σ 17 J + 33554432 * 0 := by
  unfold cpo at h
  obtain ⟨X, hX⟩ : ∃ X, X = σ 13 J + 16 * σ 14 J + 256 * σ 15 J + 4096 * (σ 16 J - 1900) + 16777216 * σ 17 J := ⟨_, rfl⟩
  have e0 : cpv σ J = σ 18 J * 2 ^ 25 + X := by unfold cpv; omega
  have hXl : X < 2 ^ 25 := by omega
  rw [e0, and_hi (M := 2 ^ 25 ^^^ 4294967295) hXl (by decide +kernel), ← hX]
  have key : σ 18 J * 2 ^ 25 &&& (2 ^ 25 ^^^ 4294967295) = 0 := by
    rcases (show σ 18 J = 0 ∨ σ 18 J = 1 by omega) with b | b <;> rw [b] <;> decide +kernel
  rw [key]; omega
end CB
theorem mk_0 {m b : Nat} (hb : b < 16) : m &&& (65535 - 2 ^ b) = m &&& (65535 ^^^ 2 ^ b) := by
  have key : ∀ b : Fin 16, 65535 - 2 ^ b.1 = 65535 ^^^ 2 ^ b.1 := by decide +kernel
  rw [key ⟨b, hb⟩]
/-! the calls -/
section LGS
variable {D : xD} {σ : Sg}
theorem LG_die {i : Nat} (hi : i < 8) (h2 : σ 2 i = 0) : LGf D (upd (pf σ) i (nI (σ 1 i + 8 * σ 2 i + 8))) (hf σ) (wf σ) (tf σ) (cf σ) (mf σ) = LG D (t_die σ (nI i) 0) := by
  rw [show t_die σ (nI i) 0 = sup σ 2 i 1 from by unfold t_die; rw [if_pos rfl, xn_nI (by omega)]]
  refine LG_of ?_ (hf_c rfl rfl) rfl rfl rfl rfl
  rw [pf_2, h2]
theorem LG_heir {i h : Nat} (hI : LI σ) (hi : i < 8) (hh : h < 8) : LGf D (pf σ) (vp_updL (hf σ) i (lN ((hpv σ i + 1) ||| h * 2 ^ (4 + 3 * σ 4 i)))) (wf σ) (tf σ) (cf σ) (mf σ) = LG D (t_heir σ (nI i) (nI h) 0) := by
  rw [show t_heir σ (nI i) (nI h) 0 = sup (sup σ 3 (12 * i + σ 4 i) h) 4 i (σ 4 i + 1) from by unfold t_heir; rw [if_pos rfl, xn_nI (by omega), xn_nI (by omega)]]
  refine LG_of rfl ?_ rfl rfl rfl rfl
  have hm := hI.1.hm
  have h7 := hI.h7 hi
  have e3 : ∀ q, q ≠ 12 * i + σ 4 i → sup (sup σ 3 (12 * i + σ 4 i) h) 4 i (σ 4 i + 1) 3 q = σ 3 q := fun q hq => sup_ne σ (fun z => hq z.2)
  have e3s : sup (sup σ 3 (12 * i + σ 4 i) h) 4 i (σ 4 i + 1) 3 (12 * i + σ 4 i) = h := sup_self σ 3 _ h
  funext j
  unfold vp_updL hf
  by_cases hj : j = i
  · rw [if_pos hj, hj]
    have e4 : sup (sup σ 3 (12 * i + σ 4 i) h) 4 i (σ 4 i + 1) 4 i = σ 4 i + 1 := sup_self _ _ _ _
    unfold hpv
    rw [e4]
    show _ = lN (σ 4 i + 1 + 16 * (hq _ i (σ 4 i) + sup (sup σ 3 (12 * i + σ 4 i) h) 4 i (σ 4 i + 1) 3 (12 * i + σ 4 i) * 8 ^ σ 4 i))
    rw [e3s, hq_congr (σ := σ) (fun k hk => e3 _ (by omega))]
    have hl := hq_lt (σ := σ) (i := i) (n := σ 4 i) (fun k hk => hI.h8 hi hk)
    have e2 : (2 : Nat) ^ (4 + 3 * σ 4 i) = 16 * 8 ^ σ 4 i := by rw [Nat.pow_add, Nat.pow_mul]
    rw [or_add (k := 4 + 3 * σ 4 i) (by rw [e2]; omega), e2]
    congr 1
    rw [Nat.mul_add, ← Nat.mul_assoc, ← Nat.mul_assoc, Nat.mul_comm h 16]
    omega
  · rw [if_neg hj]
    have e4 : sup (sup σ 3 (12 * i + σ 4 i) h) 4 i (σ 4 i + 1) 4 j = σ 4 j := sup_ne _ (fun z => hj z.2)
    unfold hpv
    rw [e4, hq_congr (σ := σ) (fun k hk => e3 _ (by have := hm j; omega))]
theorem LG_pers {g a f t : Nat} (hg : g < 4) (ha : a < 5) (hf1 : f ≤ 2100) (ht : t ≤ 2100) : LGf D (pf σ) (hf σ) (upd (upd (upd (upd (wf σ) (4 * σ 7 0) (nI g)) (4 * σ 7 0 + 1) (nI a)) (4 * σ 7 0 + 2) (nI f)) (4 * σ 7 0 + 3) (nI t)) (tf σ) (cf σ) (upd (mf σ) 1 (nI (σ 7 0 + 1))) = LG D (t_persecution σ (nI g) (nI a) (nI f) (nI t) 0) := by
  rw [show t_persecution σ (nI g) (nI a) (nI f) (nI t) 0 = sup (sup (sup (sup (sup σ 6 (4 * σ 7 0) g) 6 (4 * σ 7 0 + 1) a) 6 (4 * σ 7 0 + 2) f) 6 (4 * σ 7 0 + 3) t) 7 0 (σ 7 0 + 1) from by unfold t_persecution; rw [if_pos rfl, xn_nI (by omega), xn_nI (by omega), xn_nI (by omega), xn_nI (by omega)]]
  refine LG_of rfl (hf_c rfl rfl) ?_ rfl rfl ?_
  · show _ = wf (sup (sup (sup (sup σ 6 (4 * σ 7 0) g) 6 (4 * σ 7 0 + 1) a) 6 (4 * σ 7 0 + 2) f) 6 (4 * σ 7 0 + 3) t)
    rw [wf_6, wf_6, wf_6, wf_6]
  · rw [mf_7]; rfl
theorem LG_faith {a y : Nat} (ha : a < 5) (hy : y ≤ 60) : LGf D (pf σ) (hf σ) (wf σ) (tf σ) (cf σ) (upd (mf σ) (5 + a) (nI y)) = LG D (t_faith σ (nI a) (nI y) 0) := by
  rw [show t_faith σ (nI a) (nI y) 0 = sup σ 8 a y from by unfold t_faith; rw [if_pos rfl, xn_nI (by omega), xn_nI (by omega)]]
  exact LG_of rfl (hf_c rfl rfl) rfl rfl rfl (mf_8 σ a y).symm
theorem LG_now {y : Nat} (hy : y ≤ 2100) : LGf D (pf σ) (hf σ) (wf σ) (tf σ) (cf σ) (upd (mf σ) 0 (nI y)) = LG D (t_now σ (nI y) 0) := by
  rw [show t_now σ (nI y) 0 = sup σ 0 0 y from by unfold t_now; rw [if_pos rfl, xn_nI (by omega)]]
  exact LG_of rfl (hf_c rfl rfl) rfl rfl rfl (mf_0 σ y).symm
theorem LG_mark1 {t b : Nat} (ht : t < 3) (hb : b < 16) : LGf D (pf σ) (hf σ) (wf σ) (upd (tf σ) (2 * t) (nI (σ 9 t ||| 2 ^ b))) (cf σ) (mf σ) = LG D (t_mark σ (nI t) (nI b) 1 0) := by
  rw [show t_mark σ (nI t) (nI b) 1 0 = sup σ 9 t (σ 9 t ||| 2 ^ b) from by unfold t_mark mkv; rw [if_pos rfl, xn_nI (by omega), xn_nI (by omega), if_neg (by omega)]]
  exact LG_of rfl (hf_c rfl rfl) rfl (tf_9 σ t _).symm rfl rfl
theorem LG_mark0 {t b : Nat} (ht : t < 3) (hb : b < 16) : LGf D (pf σ) (hf σ) (wf σ) (upd (tf σ) (2 * t) (nI (σ 9 t &&& (65535 - 2 ^ b)))) (cf σ) (mf σ) = LG D (t_mark σ (nI t) (nI b) 0 0) := by
  rw [show t_mark σ (nI t) (nI b) 0 0 = sup σ 9 t (σ 9 t &&& (65535 - 2 ^ b)) from by unfold t_mark mkv; rw [if_pos rfl, xn_nI (by omega), xn_nI (by omega), if_pos rfl, mk_0 hb]]
  exact LG_of rfl (hf_c rfl rfl) rfl (tf_9 σ t _).symm rfl rfl
theorem LG_station {t p k a y : Nat} (hI : LI σ) (ht : t < 3) (hp : p < 8) (hk : k < 6) (ha : a < 5) (hy : y ≤ 200) (hn : σ 11 t < 8) : LGf D (pf σ) (hf σ) (wf σ) (tf σ) (upd (cf σ) (8 * t + σ 11 t) (nI (((p ||| k * 2 ^ 4) ||| a * 2 ^ 8) ||| y * 2 ^ 12))) (upd (mf σ) (2 + t) (nI (σ 11 t + 1))) = LG D (t_station σ (nI t) (nI p) (nI k) (nI a) (nI (1900 + y)) 0) := by
  rw [show t_station σ (nI t) (nI p) (nI k) (nI a) (nI (1900 + y)) 0 = sup (sup (sup (sup (sup σ 13 (8 * t + σ 11 t) p) 14 (8 * t + σ 11 t) k) 15 (8 * t + σ 11 t) a) 16 (8 * t + σ 11 t) (1900 + y)) 11 t (σ 11 t + 1) from by unfold t_station; rw [if_pos rfl, xn_nI (by omega), xn_nI (by omega), xn_nI (by omega), xn_nI (by omega), xn_nI (by omega)]]
  refine LG_of rfl (hf_c rfl rfl) rfl rfl ?_ ?_
  · show _ = cf (sup (sup (sup (sup σ 13 (8 * t + σ 11 t) p) 14 (8 * t + σ 11 t) k) 15 (8 * t + σ 11 t) a) 16 (8 * t + σ 11 t) (1900 + y))
    obtain ⟨z1, z2⟩ := hI.1.2.2.2.2.2.2.1 t (σ 11 t) (Nat.le_refl _) hn
    rw [cf_st, or4 hp hk ha, z1, z2, Nat.add_sub_cancel_left]
    rfl
  · rw [mf_11 _ ht]; rfl
theorem LG_rebut1 {t k : Nat} (ht : t < 3) (hk : k < 8) (hc : cpo σ (8 * t + k)) : LGf D (pf σ) (hf σ) (wf σ) (tf σ) (upd (cf σ) (8 * t + k) (nI (cpv σ (8 * t + k) ||| 2 ^ 24))) (mf σ) = LG D (t_rebut σ (nI t) (nI k) 1 0) := by
  rw [show t_rebut σ (nI t) (nI k) 1 0 = sup σ 17 (8 * t + k) 1 from by unfold t_rebut; rw [if_pos rfl, xn_nI (by omega), xn_nI (by omega)]]
  exact LG_of rfl (hf_c rfl rfl) rfl rfl (by rw [cf_17, cp_o24 hc]) rfl
theorem LG_rebut0 {t k : Nat} (ht : t < 3) (hk : k < 8) (hc : cpo σ (8 * t + k)) : LGf D (pf σ) (hf σ) (wf σ) (tf σ) (upd (cf σ) (8 * t + k) (nI (cpv σ (8 * t + k) &&& (2 ^ 24 ^^^ 4294967295)))) (mf σ) = LG D (t_rebut σ (nI t) (nI k) 0 0) := by
  rw [show t_rebut σ (nI t) (nI k) 0 0 = sup σ 17 (8 * t + k) 0 from by unfold t_rebut; rw [if_pos rfl, xn_nI (by omega), xn_nI (by omega)]]
  exact LG_of rfl (hf_c rfl rfl) rfl rfl (by rw [cf_17, cp_a24 hc]) rfl
theorem LG_settle1 {t k : Nat} (ht : t < 3) (hk : k < 8) (hc : cpo σ (8 * t + k)) : LGf D (pf σ) (hf σ) (wf σ) (tf σ) (upd (cf σ) (8 * t + k) (nI (cpv σ (8 * t + k) ||| 2 ^ 25))) (mf σ) = LG D (t_settle σ (nI t) (nI k) 1 0) := by
  rw [show t_settle σ (nI t) (nI k) 1 0 = sup σ 18 (8 * t + k) 1 from by unfold t_settle; rw [if_pos rfl, xn_nI (by omega), xn_nI (by omega)]]
  exact LG_of rfl (hf_c rfl rfl) rfl rfl (by rw [cf_18, cp_o25 hc]) rfl
theorem LG_settle0 {t k : Nat} (ht : t < 3) (hk : k < 8) (hc : cpo σ (8 * t + k)) : LGf D (pf σ) (hf σ) (wf σ) (tf σ) (upd (cf σ) (8 * t + k) (nI (cpv σ (8 * t + k) &&& (2 ^ 25 ^^^ 4294967295)))) (mf σ) = LG D (t_settle σ (nI t) (nI k) 0 0) := by
  rw [show t_settle σ (nI t) (nI k) 0 0 = sup σ 18 (8 * t + k) 0 from by unfold t_settle; rw [if_pos rfl, xn_nI (by omega), xn_nI (by omega)]]
  exact LG_of rfl (hf_c rfl rfl) rfl rfl (by rw [cf_18, cp_a25 hc]) rfl
end LGS
/-! .. and keeps -/
section LIS
variable {σ : Sg}
theorem LI_die {x : Int32} (hI : LI σ) (h : gk (pP σ x) (σ 2 (xn x) = 0) True 0) : LI (t_die σ x 0) := ⟨g_die hI.1 h, hI.2.1, hI.2.2.1, hI.2.2.2⟩
theorem LI_heir {x y : Int32} (hI : LI σ) (h4 : σ 4 (xn x) < 11) (h : gk (pP σ x ∧ pP σ y) (¬ x.toInt = y.toInt) (¬ hH σ (xn x) (xn y)) 0) : LI (t_heir σ x y 0) := ⟨g_heir hI.1 (fun _ => h4) h, hI.2.1, hI.2.2.1, hI.2.2.2⟩
theorem LI_pers {g a f t : Int32} (hI : LI σ) (h7 : σ 7 0 < 8) (h : gk (rg g 0 3 ∧ pL a) (rg f 1900 2100 ∧ f.toInt ≤ t.toInt ∧ t.toInt ≤ 2100) (σ 7 0 < 20) 0) : LI (t_persecution σ g a f t 0) := ⟨g_persecution hI.1 h, hI.2.1, hI.2.2.1, by
  unfold t_persecution
  rw [if_pos rfl, sup_self]
  omega⟩
theorem LI_faith {a y : Int32} (hI : LI σ) (h : gk (pL a) (rg y 0 60) True 0) : LI (t_faith σ a y 0) := ⟨g_faith hI.1 h, hI.2.1, hI.2.2.1, hI.2.2.2⟩
theorem LI_now {y : Int32} (hI : LI σ) (h : gk ((σ 0 0 : Int) ≤ y.toInt ∧ y.toInt ≤ 2100) True True 0) : LI (t_now σ y 0) := ⟨g_now hI.1 h, hI.2.1, hI.2.2.1, hI.2.2.2⟩
theorem LI_mark {t b : Int32} {bn : Nat} (hI : LI σ) (h : gk (pT σ t) (rg b 0 15) True 0) : LI (t_mark σ t b bn 0) := ⟨g_mark hI.1 h, hI.2.1, hI.2.2.1, hI.2.2.2⟩
theorem LI_station {t q kd a y : Int32} (hI : LI σ) (h : gk (pT σ t ∧ pP σ q ∧ pL a) (rg kd 0 5 ∧ 1900 ≤ y.toInt ∧ y.toInt ≤ σ 0 0) (σ 11 (xn t) < 8) 0) : LI (t_station σ t q kd a y 0) := ⟨g_station hI.1 h, hI.2.1, hI.2.2.1, hI.2.2.2⟩
theorem LI_rebut {t x : Int32} {bn : Nat} (hI : LI σ) (hb : bn < 2) (h : gk (pS σ t x) (σ 14 (8 * xn t + xn x) = 0) True 0) : LI (t_rebut σ t x bn 0) := ⟨g_rebut hI.1 hb h, hI.2.1, hI.2.2.1, hI.2.2.2⟩
theorem LI_settle {t x : Int32} {bn : Nat} (hI : LI σ) (hb : bn < 2) (h : gk (pS σ t x) True True 0) : LI (t_settle σ t x bn 0) := ⟨g_settle hI.1 hb h, hI.2.1, hI.2.2.1, hI.2.2.2⟩
end LIS
/-- what a step of the law leaves -/
def xOp (D : xD) (xa : xA) (r : Int32) (u : xA × xG) : Prop := ∃ σ1 : Sg, LI σ1 ∧ xPo D xa (LG D σ1) σ1 (r = 1) u
def Cb (P : Nat → Prop) (n k : Nat) : Prop := (n = 0 ∧ ∀ j, j < k → ¬ P j) ∨ (n = 1 ∧ ∃ j, j < k ∧ P j)
theorem Cb_0 (P : Nat → Prop) : Cb P 0 0 := Or.inl ⟨rfl, fun j h => absurd h (Nat.not_lt_zero j)⟩
theorem Cb_lt {P : Nat → Prop} {n k : Nat} (h : Cb P n k) : n < 2 := by rcases h with ⟨rfl, -⟩ | ⟨rfl, -⟩ <;> omega
theorem Cb_old {P : Nat → Prop} {n k : Nat} (h : Cb P n k) (hn : ¬ n = 0) : Cb P 1 (k + 1) := by
  rcases h with ⟨h1, -⟩ | ⟨-, j, h1, h2⟩
  · exact absurd h1 hn
  · exact Or.inr ⟨rfl, j, by omega, h2⟩
theorem Cb_yes {P : Nat → Prop} {k : Nat} (hp : P k) : Cb P 1 (k + 1) := Or.inr ⟨rfl, k, by omega, hp⟩
theorem Cb_no {P : Nat → Prop} {n k : Nat} (h : Cb P n k) (hn : n = 0) (hp : ¬ P k) : Cb P 0 (k + 1) := by
  rcases h with ⟨-, h1⟩ | ⟨h1, -⟩
  · refine Or.inl ⟨rfl, fun j hj => ?_⟩
    by_cases hjk : j = k
    · rw [hjk]; exact hp
    · exact h1 j (by omega)
  · omega
theorem Cb_f {P : Nat → Prop} {n k : Nat} (h : Cb P n k) (hn : n = 0) : ∀ j, j < k → ¬ P j := by
  rcases h with ⟨-, h1⟩ | ⟨h1, -⟩
  · exact h1
  · omega
theorem shl_ok {h n : Nat} (hh : h < 8) (hn : n ≤ 7) : h * 2 ^ (4 + 3 * n) < 2 ^ 63 := by
  have h1 : (2 : Nat) ^ (4 + 3 * n) ≤ 2 ^ 25 := Nat.pow_le_pow_right (by omega) (by omega)
  have h2 : h * 2 ^ (4 + 3 * n) ≤ 7 * 2 ^ 25 := Nat.mul_le_mul (by omega) h1
  omega
