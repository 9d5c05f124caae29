/-! THE LAW'S NUMBERS: bits, longs -/
theorem n_rem {a d : Nat} (ha : a < 2 ^ 31) (h0 : 0 < d) (hd : d < 2 ^ 31) : nI a - nI a / nI d * nI d = nI (a % d) := pk_rem ha h0 hd
theorem lN_and (a b : Nat) : lN a &&& lN b = lN (a &&& b) := by
  apply Int64.toBitVec_inj.mp
  rw [Int64.toBitVec_and]
  show BitVec.ofNat 64 a &&& BitVec.ofNat 64 b = BitVec.ofNat 64 (a &&& b)
  simp
theorem lN_or (a b : Nat) : lN a ||| lN b = lN (a ||| b) := by
  apply Int64.toBitVec_inj.mp
  rw [Int64.toBitVec_or]
  show BitVec.ofNat 64 a ||| BitVec.ofNat 64 b = BitVec.ofNat 64 (a ||| b)
  simp
theorem bl_sm {b : Nat} (h : b < 64) : (((nI b).toInt64 &&& 63).toBitVec.smod 64).toNat = b := by
  have key : ∀ b : Fin 64, (((nI b.1).toInt64 &&& 63).toBitVec.smod 64).toNat = b.1 := by decide +kernel
  exact key ⟨b, h⟩
theorem lN_shr {a b : Nat} (ha : a < 2 ^ 63) (hb : b < 64) : lN a >>> ((nI b).toInt64 &&& 63) = lN (a / 2 ^ b) := by
  apply Int64.toInt_inj.mp
  show ((lN a).toBitVec.sshiftRight (((nI b).toInt64 &&& 63).toBitVec.smod 64).toNat).toInt = _
  rw [bl_sm hb, BitVec.toInt_sshiftRight]
  show (lN a).toInt >>> b = _
  rw [pk_lT ha, pk_lT (Nat.lt_of_le_of_lt (Nat.div_le_self _ _) ha), Int.shiftRight_eq_div_pow]
  rfl
theorem lN_shl {a b : Nat} (h : a * 2 ^ b < 2 ^ 63) (hb : b < 64) : lN a <<< ((nI b).toInt64 &&& 63) = lN (a * 2 ^ b) := by
  have h0 : a ≤ a * 2 ^ b := Nat.le_mul_of_pos_right _ (Nat.two_pow_pos b)
  apply Int64.toBitVec_inj.mp
  apply BitVec.eq_of_toNat_eq
  show ((lN a).toBitVec <<< (((nI b).toInt64 &&& 63).toBitVec.smod 64).toNat).toNat = _
  rw [bl_sm hb, BitVec.toNat_shiftLeft, Nat.shiftLeft_eq]
  show (a % 2 ^ 64) * 2 ^ b % 2 ^ 64 = (a * 2 ^ b) % 2 ^ 64
  rw [Nat.mod_eq_of_lt (a := a) (by omega)]
theorem n_mask (n k : Nat) (m : Nat) (hm : m = 2 ^ k - 1) : nI n &&& nI m = nI (n % 2 ^ k) := by
  rw [nI_and, hm, Nat.and_two_pow_sub_one_eq_mod]
theorem l_mask (n k : Nat) (m : Nat) (hm : m = 2 ^ k - 1) : lN n &&& lN m = lN (n % 2 ^ k) := by
  rw [lN_and, hm, Nat.and_two_pow_sub_one_eq_mod]
theorem n_shl {a b : Nat} (hb : b < 32) (h : a * 2 ^ b < 2 ^ 32) : nI a <<< (nI b &&& 31) = nI (a * 2 ^ b) := pk_shlN _ b (bt_sm hb) h
theorem bit_b {x k : Nat} : x.testBit k = decide (x / 2 ^ k % 2 = 1) := Nat.testBit_eq_decide_div_mod_eq
theorem bit_lt (x k : Nat) : x / 2 ^ k % 2 < 2 := Nat.mod_lt _ (by omega)
theorem bit_or (x y k : Nat) : (x ||| y) / 2 ^ k % 2 = 1 ↔ x / 2 ^ k % 2 = 1 ∨ y / 2 ^ k % 2 = 1 := by
  have h := Nat.testBit_or x y k
  rw [bit_b, bit_b, bit_b] at h
  by_cases h1 : x / 2 ^ k % 2 = 1 <;> by_cases h2 : y / 2 ^ k % 2 = 1 <;> simp [h1, h2] at h ⊢ <;> omega
theorem bit_and (x y k : Nat) : (x &&& y) / 2 ^ k % 2 = 1 ↔ x / 2 ^ k % 2 = 1 ∧ y / 2 ^ k % 2 = 1 := by
  have h := Nat.testBit_and x y k
  rw [bit_b, bit_b, bit_b] at h
  by_cases h1 : x / 2 ^ k % 2 = 1 <;> by_cases h2 : y / 2 ^ k % 2 = 1 <;> simp [h1, h2] at h ⊢ <;> omega
theorem bit_xor (x y k : Nat) : (x ^^^ y) / 2 ^ k % 2 = 1 ↔ ¬ (x / 2 ^ k % 2 = y / 2 ^ k % 2) := by
  have h := Nat.testBit_xor x y k
  rw [bit_b, bit_b, bit_b] at h
  have a1 := bit_lt x k
  have a2 := bit_lt y k
  by_cases h1 : x / 2 ^ k % 2 = 1 <;> by_cases h2 : y / 2 ^ k % 2 = 1 <;> simp [h1, h2] at h ⊢ <;> omega
theorem bit_pow (b k : Nat) : 2 ^ b / 2 ^ k % 2 = 1 ↔ b = k := by
  have h := Nat.testBit_two_pow (n := b) (m := k)
  rw [bit_b] at h
  by_cases h1 : b = k <;> simp [h1] at h ⊢ <;> (try exact h)
/-- bits as numbers -/
theorem bit_ad (x y k : Nat) : (x / 2 ^ k % 2 + y / 2 ^ k % 2 = 2 ∧ (x &&& y) / 2 ^ k % 2 = 1 ∧ (x ^^^ y) / 2 ^ k % 2 = 0) ∨ (x / 2 ^ k % 2 + y / 2 ^ k % 2 = 1 ∧ (x &&& y) / 2 ^ k % 2 = 0 ∧ (x ^^^ y) / 2 ^ k % 2 = 1) ∨ (x / 2 ^ k % 2 + y / 2 ^ k % 2 = 0 ∧ (x &&& y) / 2 ^ k % 2 = 0 ∧ (x ^^^ y) / 2 ^ k % 2 = 0) := by
  have a1 := bit_lt x k
  have a2 := bit_lt y k
  have a3 := bit_lt (x &&& y) k
  have a4 := bit_lt (x ^^^ y) k
  have b1 := bit_and x y k
  have b2 := bit_xor x y k
  omega
/-- the orders of stations are sorted -/
theorem ipl_hi (yr o : Nat → Nat) (y : Nat) : ∀ a q, ipl yr o y a ≤ q → q < a → y < yr (o q)
  | 0, q, _, h => by omega
  | a + 1, q, h1, h2 => by
    rw [ipl] at h1
    split at h1
    · rename_i hy
      by_cases hq : q = a
      · rw [hq]; exact hy
      · exact ipl_hi yr o y a q h1 (by omega)
    · omega
theorem ipl_lo (yr o : Nat → Nat) (y : Nat) : ∀ a, 0 < ipl yr o y a → yr (o (ipl yr o y a - 1)) ≤ y
  | 0, h => by rw [ipl] at h; omega
  | a + 1, h => by
    rw [ipl] at h ⊢
    split
    · rename_i hy
      rw [if_pos hy] at h
      exact ipl_lo yr o y a h
    · rename_i hy
      rw [Nat.add_sub_cancel]; omega
def lex (yr : Nat → Nat) (a b : Nat) : Prop := yr a < yr b ∨ (yr a = yr b ∧ a < b)
theorem od_lex {yr : Nat → Nat} : ∀ {n q q' : Nat}, q < q' → q' < n → lex yr (od yr n q) (od yr n q')
  | 0, q, q', _, h => by omega
  | n + 1, q, q', h, h' => by
    have hp := ipl_le yr (od yr n) (yr n) n
    have hhi := ipl_hi yr (od yr n) (yr n) n
    have hlo := ipl_lo yr (od yr n) (yr n) n
    rw [od]
    generalize ipl yr (od yr n) (yr n) n = p at hp hhi hlo ⊢
    have hlo2 : ∀ x, x < p → yr (od yr n x) ≤ yr n := fun x hx => by
      have h1 := hlo (by omega)
      by_cases hxp : x = p - 1
      · rw [hxp]; exact h1
      · have h2 := od_lex (yr := yr) (n := n) (q := x) (q' := p - 1) (by omega) (by omega)
        unfold lex at h2; omega
    rcases insF_cases (od yr n) n p q with ⟨a, b⟩ | ⟨a, b⟩ | ⟨a, b⟩ <;> rcases insF_cases (od yr n) n p q' with ⟨a', b'⟩ | ⟨a', b'⟩ | ⟨a', b'⟩ <;> rw [b, b']
    · exact od_lex h (by omega)
    · have h1 := hlo2 q a
      have h2 := od_lt (yr := yr) (n := n) (q := q) (by omega)
      unfold lex; omega
    · exact od_lex (by omega) (by omega)
    · omega
    · omega
    · exact Or.inl (hhi (q' - 1) (by omega) (by omega))
    · omega
    · omega
    · exact od_lex (by omega) (by omega)
/-- the least of those that are free, from kk on -/
def Lm (P : Nat → Prop) (yr : Nat → Nat) (kk n : Nat) : Option Nat → Prop
  | none => ∀ j, kk ≤ j → j < n → ¬ P j
  | some b => kk ≤ b ∧ b < n ∧ P b ∧ ∀ j, kk ≤ j → j < n → P j → yr b < yr j ∨ (yr b = yr j ∧ b ≤ j)
def Tk (yr : Nat → Nat) (cnt n tk : Nat) : Prop := ∀ k, k < 8 → (tk / 2 ^ k % 2 = 1 ↔ ∃ q, q < n ∧ od yr cnt q = k)
theorem Lm_skip {P : Nat → Prop} {yr : Nat → Nat} {k n : Nat} {r : Option Nat} (h : Lm P yr (k + 1) n r) (hk : ¬ P k) : Lm P yr k n r := by
  cases r with
  | none =>
    intro j h1 h2 h3
    by_cases hj : j = k
    · exact hk (hj ▸ h3)
    · exact h j (by omega) h2 h3
  | some b =>
    refine ⟨by have := h.1; omega, h.2.1, h.2.2.1, fun j h1 h2 h3 => ?_⟩
    by_cases hj : j = k
    · exact absurd (hj ▸ h3) hk
    · exact h.2.2.2 j (by omega) h2 h3
theorem Lm_none {P : Nat → Prop} {yr : Nat → Nat} {k n : Nat} (h : Lm P yr (k + 1) n none) (hk : P k) (hn : k < n) : Lm P yr k n (some k) := ⟨Nat.le_refl _, hn, hk, fun j h1 h2 h3 => by
  by_cases hj : j = k
  · exact Or.inr ⟨by rw [hj], h1⟩
  · exact absurd h3 (h j (by omega) h2)⟩
theorem Lm_take {P : Nat → Prop} {yr : Nat → Nat} {k n b : Nat} (h : Lm P yr (k + 1) n (some b)) (hk : P k) (hy : yr k ≤ yr b) : Lm P yr k n (some k) := ⟨Nat.le_refl _, by have h1 := h.1; have h2 := h.2.1; omega, hk, fun j h1 h2 h3 => by
  by_cases hj : j = k
  · exact Or.inr ⟨by rw [hj], h1⟩
  · have h4 := h.2.2.2 j (by omega) h2 h3
    omega⟩
theorem Lm_leave {P : Nat → Prop} {yr : Nat → Nat} {k n b : Nat} (h : Lm P yr (k + 1) n (some b)) (hy : ¬ yr k ≤ yr b) : Lm P yr k n (some b) := ⟨by have := h.1; omega, h.2.1, h.2.2.1, fun j h1 h2 h3 => by
  by_cases hj : j = k
  · rw [hj]; omega
  · exact h.2.2.2 j (by omega) h2 h3⟩
theorem Tk_lm {yr : Nat → Nat} {cnt n tk : Nat} {r : Option Nat} (hT : Tk yr cnt n tk) (h8 : cnt ≤ 8) (hn : n < cnt) (h : Lm (fun j => ¬ tk / 2 ^ j % 2 = 1) yr 0 cnt r) : r = some (od yr cnt n) := by
  have hon := od_lt (yr := yr) (n := cnt) (q := n) hn
  have hfree : ¬ tk / 2 ^ (od yr cnt n) % 2 = 1 := fun hz => by
    obtain ⟨q, hq, he⟩ := (hT _ (by omega)).mp hz
    have := od_inj (by omega) hn he
    omega
  cases r with
  | none => exact absurd hfree (h _ (by omega) hon)
  | some b =>
    obtain ⟨-, hb, hfb, hall⟩ := h
    have h1 := hall _ (by omega) hon hfree
    obtain ⟨q, hq, rfl⟩ := od_surj (yr := yr) hb
    have hqn : ¬ q < n := fun hlt => hfb ((hT _ (by omega)).mpr ⟨q, hlt, rfl⟩)
    by_cases he : q = n
    · rw [he]
    · have h2 := od_lex (yr := yr) (n := cnt) (q := n) (q' := q) (by omega) hq
      unfold lex at h2
      omega
theorem Tk_next {yr : Nat → Nat} {cnt n tk : Nat} (hT : Tk yr cnt n tk) : Tk yr cnt (n + 1) (tk ||| 2 ^ (od yr cnt n)) := fun k hk => by
  rw [bit_or, bit_pow, hT k hk]
  constructor
  · rintro (⟨q, h1, h2⟩ | h)
    · exact ⟨q, by omega, h2⟩
    · exact ⟨n, by omega, h⟩
  · rintro ⟨q, h1, h2⟩
    by_cases hq : q = n
    · exact Or.inr (by rw [← hq]; exact h2)
    · exact Or.inl ⟨q, by omega, h2⟩
theorem Tk_0 (yr : Nat → Nat) (cnt : Nat) : Tk yr cnt 0 0 := fun k _ => by
  rw [Nat.zero_div]
  exact ⟨fun h => by omega, fun ⟨q, h, _⟩ => by omega⟩
theorem or_lt8 {x b : Nat} (hx : x < 256) (hb : b < 8) : x ||| 2 ^ b < 256 := by
  have h1 : 2 ^ b < 2 ^ 8 := Nat.pow_lt_pow_right (by omega) hb
  exact Nat.or_lt_two_pow (n := 8) hx h1
/-! THE LAW'S ROWS: what its arrays hold, of the class's state σ -/
def hq (σ : Sg) (i : Nat) : Nat → Nat
  | 0 => 0
  | n + 1 => hq σ i n + σ 3 (12 * i + n) * 8 ^ n
def hpv (σ : Sg) (i : Nat) : Nat := σ 4 i + 16 * hq σ i (σ 4 i)
def cpv (σ : Sg) (j : Nat) : Nat := σ 13 j + 16 * σ 14 j + 256 * σ 15 j + 4096 * (σ 16 j - 1900) + 16777216 * σ 17 j + 33554432 * σ 18 j
def mv (σ : Sg) (j : Nat) : Nat := if j = 0 then σ 0 0 else if j = 1 then σ 7 0 else if j < 5 then σ 11 (j - 2) else σ 8 (j - 5)
def tvv (σ : Sg) (j : Nat) : Nat := if j % 2 = 0 then σ 9 (j / 2) else σ 10 (j / 2)
def pf (σ : Sg) : Nat → Int32 := fun j => nI (σ 1 j + 8 * σ 2 j)
def hf (σ : Sg) : Nat → Int64 := fun j => lN (hpv σ j)
def wf (σ : Sg) : Nat → Int32 := fun j => nI (σ 6 j)
def tf (σ : Sg) : Nat → Int32 := fun j => nI (tvv σ j)
def cf (σ : Sg) : Nat → Int32 := fun j => nI (cpv σ j)
def mf (σ : Sg) : Nat → Int32 := fun j => nI (mv σ j)
/-- 40: groups and deaths; 41: heirs; 42: persecutions; 43: marks and sizes; 44: stations; 45: the year, how many, good faith -/
def LGf (D : xD) (p : Nat → Int32) (h : Nat → Int64) (w t c m : Nat → Int32) : xG := fun k i => if i = 0 then (match k with
  | 40 => some (.inl (D.2 4, 8, .inl p))
  | 41 => some (.inl (D.2 6, 8, .inr (.inl h)))
  | 42 => some (.inl (D.2 4, 32, .inl w))
  | 43 => some (.inl (D.2 4, 6, .inl t))
  | 44 => some (.inl (D.2 4, 24, .inl c))
  | 45 => some (.inl (D.2 4, 10, .inl m))
  | _ => none) else none
def LG (D : xD) (σ : Sg) : xG := LGf D (pf σ) (hf σ) (wf σ) (tf σ) (cf σ) (mf σ)
/-- a world that holds the law's rows -/
def LA (D : xD) (G : xG) (p : Nat → Int32) (h : Nat → Int64) (w t c m : Nat → Int32) : Prop := ∀ k, 40 ≤ k → k < 46 → G k 0 = LGf D p h w t c m k 0
section LAx
variable {D : xD} {G : xG} {p : Nat → Int32} {h : Nat → Int64} {w t c m : Nat → Int32}
theorem LA_40 (hA : LA D G p h w t c m) : G 40 0 = some (.inl (D.2 4, 8, .inl p)) := hA 40 (by omega) (by omega)
theorem LA_41 (hA : LA D G p h w t c m) : G 41 0 = some (.inl (D.2 6, 8, .inr (.inl h))) := hA 41 (by omega) (by omega)
theorem LA_42 (hA : LA D G p h w t c m) : G 42 0 = some (.inl (D.2 4, 32, .inl w)) := hA 42 (by omega) (by omega)
theorem LA_43 (hA : LA D G p h w t c m) : G 43 0 = some (.inl (D.2 4, 6, .inl t)) := hA 43 (by omega) (by omega)
theorem LA_44 (hA : LA D G p h w t c m) : G 44 0 = some (.inl (D.2 4, 24, .inl c)) := hA 44 (by omega) (by omega)
theorem LA_45 (hA : LA D G p h w t c m) : G 45 0 = some (.inl (D.2 4, 10, .inl m)) := hA 45 (by omega) (by omega)
theorem LA_x {xa : xA} {σ : Sg} {τ : Tg} : LA D (xGs (LGf D p h w t c m) D xa σ τ) p h w t c m := fun k h1 _ => if_neg (by omega)
variable {xa : xA} {σ : Sg} {τ : Tg}
theorem LG_up {k : Nat} {e : va_E} {G' : xG} (hk : 20 ≤ k) (h9 : xup (LGf D p h w t c m) k 0 e = G') : xup (xGs (LGf D p h w t c m) D xa σ τ) k 0 e = xGs G' D xa σ τ := by
  subst h9
  funext x y
  unfold xGs xup
  dsimp only
  by_cases h : x < 20
  · rw [if_pos h, if_pos h, if_neg (by omega)]
  · rw [if_neg h, if_neg h]
theorem LG_p (p' : Nat → Int32) : xup (LGf D p h w t c m) 40 0 (.inl (D.2 4, 8, .inl p')) = LGf D p' h w t c m := by
  funext x y
  unfold xup LGf
  by_cases hq : x = 40 ∧ y = 0
  · rw [if_pos hq, if_pos hq.2, hq.1]
    rfl
  · rw [if_neg hq]
    split
    · split <;> first | rfl | exact absurd ⟨rfl, by assumption⟩ hq
    · rfl
theorem LG_h (h' : Nat → Int64) : xup (LGf D p h w t c m) 41 0 (.inl (D.2 6, 8, .inr (.inl h'))) = LGf D p h' w t c m := by
  funext x y
  unfold xup LGf
  by_cases hq : x = 41 ∧ y = 0
  · rw [if_pos hq, if_pos hq.2, hq.1]
    rfl
  · rw [if_neg hq]
    split
    · split <;> first | rfl | exact absurd ⟨rfl, by assumption⟩ hq
    · rfl
theorem LG_w (w' : Nat → Int32) : xup (LGf D p h w t c m) 42 0 (.inl (D.2 4, 32, .inl w')) = LGf D p h w' t c m := by
  funext x y
  unfold xup LGf
  by_cases hq : x = 42 ∧ y = 0
  · rw [if_pos hq, if_pos hq.2, hq.1]
    rfl
  · rw [if_neg hq]
    split
    · split <;> first | rfl | exact absurd ⟨rfl, by assumption⟩ hq
    · rfl
theorem LG_t (t' : Nat → Int32) : xup (LGf D p h w t c m) 43 0 (.inl (D.2 4, 6, .inl t')) = LGf D p h w t' c m := by
  funext x y
  unfold xup LGf
  by_cases hq : x = 43 ∧ y = 0
  · rw [if_pos hq, if_pos hq.2, hq.1]
    rfl
  · rw [if_neg hq]
    split
    · split <;> first | rfl | exact absurd ⟨rfl, by assumption⟩ hq
    · rfl
theorem LG_c (c' : Nat → Int32) : xup (LGf D p h w t c m) 44 0 (.inl (D.2 4, 24, .inl c')) = LGf D p h w t c' m := by
  funext x y
  unfold xup LGf
  by_cases hq : x = 44 ∧ y = 0
  · rw [if_pos hq, if_pos hq.2, hq.1]
    rfl
  · rw [if_neg hq]
    split
    · split <;> first | rfl | exact absurd ⟨rfl, by assumption⟩ hq
    · rfl
theorem LG_m (m' : Nat → Int32) : xup (LGf D p h w t c m) 45 0 (.inl (D.2 4, 10, .inl m')) = LGf D p h w t c m' := by
  funext x y
  unfold xup LGf
  by_cases hq : x = 45 ∧ y = 0
  · rw [if_pos hq, if_pos hq.2, hq.1]
    rfl
  · rw [if_neg hq]
    split
    · split <;> first | rfl | exact absurd ⟨rfl, by assumption⟩ hq
    · rfl
end LAx
/-- what the law's states keep -/
def LI (σ : Sg) : Prop := Gd σ ∧ σ 5 0 = 8 ∧ σ 12 0 = 3 ∧ σ 7 0 ≤ 8
def cpo (σ : Sg) (j : Nat) : Prop := σ 13 j < 8 ∧ σ 14 j < 6 ∧ σ 15 j < 5 ∧ 1900 ≤ σ 16 j ∧ σ 16 j ≤ 2100 ∧ σ 17 j < 2 ∧ σ 18 j < 2
theorem LI.cp {σ : Sg} (hI : LI σ) {t k : Nat} (ht : t < 3) (hk : k < σ 11 t) : cpo σ (8 * t + k) := by
  obtain ⟨hg, h5, h12, h7⟩ := hI
  obtain ⟨b1, b2, b3, b4, b5, b6, b7⟩ := (hg.2.2.2.2.1 t (by omega)).2.2 k hk
  have := hg.2.1.2.2.2.2
  exact ⟨by omega, b2, b3, b4, by omega, b6, b7⟩
theorem LI.h7 {σ : Sg} (hI : LI σ) {i : Nat} (hi : i < 8) : σ 4 i ≤ 7 := by
  obtain ⟨hg, h5, h12, h7⟩ := hI
  obtain ⟨-, -, -, b4, b5⟩ := hg.2.2.1 i (by omega)
  refine Nat.le_of_not_lt fun h8 => ?_
  obtain ⟨a, b, h1, h2, h3⟩ := pigeon 7 (fun k => if σ 3 (12 * i + k) < i then σ 3 (12 * i + k) else σ 3 (12 * i + k) - 1) (fun k hk => by
    try dsimp only
    have h6 := b4 k (by omega)
    split <;> omega)
  try dsimp only at h3
  have a6 := b4 a (by omega)
  have c6 := b4 b (by omega)
  have hab := b5 a b (by omega) (by omega)
  have : σ 3 (12 * i + a) = σ 3 (12 * i + b) := by
    split at h3 <;> split at h3 <;> omega
  have := hab this
  omega
theorem hq_lt {σ : Sg} {i : Nat} : ∀ {n : Nat}, (∀ k, k < n → σ 3 (12 * i + k) < 8) → hq σ i n < 8 ^ n
  | 0, _ => by show 0 < 1; omega
  | n + 1, h => by
    have h1 := hq_lt (σ := σ) (i := i) (n := n) (fun k hk => h k (by omega))
    have h2 := h n (by omega)
    show hq σ i n + σ 3 (12 * i + n) * 8 ^ n < 8 ^ (n + 1)
    rw [Nat.pow_succ]
    have h3 : σ 3 (12 * i + n) * 8 ^ n ≤ 7 * 8 ^ n := Nat.mul_le_mul_right _ (by omega)
    omega
theorem hq_at {σ : Sg} {i : Nat} : ∀ {n k : Nat}, (∀ k, k < n → σ 3 (12 * i + k) < 8) → k < n → hq σ i n / 8 ^ k % 8 = σ 3 (12 * i + k)
  | 0, k, _, h => by omega
  | n + 1, k, h, hk => by
    have h1 := hq_lt (σ := σ) (i := i) (n := n) (fun k hk => h k (by omega))
    have hp : 0 < 8 ^ k := Nat.pow_pos (by omega)
    show (hq σ i n + σ 3 (12 * i + n) * 8 ^ n) / 8 ^ k % 8 = _
    by_cases hkn : k = n
    · rw [hkn] at hp ⊢
      rw [Nat.add_mul_div_right _ _ hp, Nat.div_eq_of_lt h1, Nat.zero_add, Nat.mod_eq_of_lt (h n (by omega))]
    · have h2 := hq_at (σ := σ) (i := i) (n := n) (k := k) (fun k hk => h k (by omega)) (by omega)
      obtain ⟨d, rfl⟩ : ∃ d, n = k + 1 + d := ⟨n - k - 1, by omega⟩
      have e1 : σ 3 (12 * i + (k + 1 + d)) * 8 ^ (k + 1 + d) = (8 * (σ 3 (12 * i + (k + 1 + d)) * 8 ^ d)) * 8 ^ k := by
        rw [Nat.pow_add, Nat.pow_succ]
        ac_rfl
      rw [e1, Nat.add_mul_div_right _ _ hp, Nat.add_mul_mod_self_left]
      exact h2
theorem LI.h8 {σ : Sg} (hI : LI σ) {i : Nat} (hi : i < 8) {k : Nat} (hk : k < σ 4 i) : σ 3 (12 * i + k) < 8 := by
  have h := ((hI.1.2.2.1 i (by rw [hI.2.1]; exact hi)).2.2.2.1 k hk).1
  rw [hI.2.1] at h
  exact h
theorem LI.hv {σ : Sg} (hI : LI σ) {i : Nat} (hi : i < 8) : hpv σ i < 33554432 := by
  have h1 := hq_lt (σ := σ) (i := i) (n := σ 4 i) (fun k hk => hI.h8 hi hk)
  have h2 := hI.h7 hi
  have h3 : 8 ^ σ 4 i ≤ 8 ^ 7 := Nat.pow_le_pow_right (by omega) h2
  unfold hpv
  omega
theorem LI.hn {σ : Sg} (hI : LI σ) {i : Nat} (hi : i < 8) : hpv σ i % 2 ^ 4 = σ 4 i := by
  have h2 := hI.h7 hi
  unfold hpv
  omega
theorem LI.hk {σ : Sg} (hI : LI σ) {i : Nat} (hi : i < 8) {k : Nat} (hk : k < σ 4 i) : hpv σ i / 2 ^ (4 + 3 * k) % 2 ^ 3 = σ 3 (12 * i + k) := by
  have h2 := hI.h7 hi
  rw [← hq_at (σ := σ) (i := i) (n := σ 4 i) (k := k) (fun k hk => hI.h8 hi hk) hk, Nat.pow_add, ← Nat.div_div_eq_div_mul, Nat.pow_mul]
  congr 2
  unfold hpv
  omega
theorem mv_0 (σ : Sg) : mv σ 0 = σ 0 0 := rfl
theorem mv_1 (σ : Sg) : mv σ 1 = σ 7 0 := rfl
theorem mv_2 (σ : Sg) {t : Nat} (h : t < 3) : mv σ (2 + t) = σ 11 t := by
  unfold mv
  rw [if_neg (by omega), if_neg (by omega), if_pos (by omega), Nat.add_sub_cancel_left]
theorem mv_5 (σ : Sg) (a : Nat) : mv σ (5 + a) = σ 8 a := by
  unfold mv
  rw [if_neg (by omega), if_neg (by omega), if_neg (by omega), Nat.add_sub_cancel_left]
theorem tv_0 (σ : Sg) (i : Nat) : tvv σ (2 * i) = σ 9 i := by
  unfold tvv
  rw [if_pos (by omega), show 2 * i / 2 = i by omega]
theorem tv_1 (σ : Sg) (i : Nat) : tvv σ (2 * i + 1) = σ 10 i := by
  unfold tvv
  rw [if_neg (by omega), show (2 * i + 1) / 2 = i by omega]
section CP
variable {σ : Sg} {j : Nat}
theorem cp_lt (h : cpo σ j) : cpv σ j < 2 ^ 31 := by unfold cpo at h; unfold cpv; omega
theorem cp_p (h : cpo σ j) : nI (cpv σ j) &&& nI 15 = nI (σ 13 j) := by
  rw [n_mask _ 4 _ rfl]; refine congrArg nI ?_; unfold cpo at h; unfold cpv; omega
theorem cp_k (h : cpo σ j) : nI (cpv σ j / 2 ^ 4) &&& nI 15 = nI (σ 14 j) := by
  rw [n_mask _ 4 _ rfl]; refine congrArg nI ?_; unfold cpo at h; unfold cpv; omega
theorem cp_a (h : cpo σ j) : nI (cpv σ j / 2 ^ 8) &&& nI 15 = nI (σ 15 j) := by
  rw [n_mask _ 4 _ rfl]; refine congrArg nI ?_; unfold cpo at h; unfold cpv; omega
theorem cp_y (h : cpo σ j) : nI (cpv σ j / 2 ^ 12) &&& nI 255 = nI (σ 16 j - 1900) := by
  rw [n_mask _ 8 255 (by decide)]; refine congrArg nI ?_; unfold cpo at h; unfold cpv; omega
theorem cp_r (h : cpo σ j) : nI (cpv σ j / 2 ^ 24) &&& nI 1 = nI (σ 17 j) := by
  rw [n_mask _ 1 _ rfl]; refine congrArg nI ?_; unfold cpo at h; unfold cpv; omega
theorem cp_s (h : cpo σ j) : nI (cpv σ j / 2 ^ 25) &&& nI 1 = nI (σ 18 j) := by
  rw [n_mask _ 1 _ rfl]; refine congrArg nI ?_; unfold cpo at h; unfold cpv; omega
end CP
theorem mv_lt {σ : Sg} (hI : LI σ) {j : Nat} (hj : j < 10) : mv σ j < 65536 := by
  have hB := hI.1.1
  unfold mv
  split
  · exact hB _ _
  · split
    · exact hB _ _
    · split <;> exact hB _ _
