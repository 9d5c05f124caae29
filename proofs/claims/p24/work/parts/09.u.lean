/-! BITS, small integers, rows of finds -/
theorem nI_and (a b : Nat) : nI a &&& nI b = nI (a &&& b) := by
  apply Int32.toBitVec_inj.mp
  rw [Int32.toBitVec_and]
  show BitVec.ofNat 32 a &&& BitVec.ofNat 32 b = BitVec.ofNat 32 (a &&& b)
  simp
theorem nI_or (a b : Nat) : nI a ||| nI b = nI (a ||| b) := by
  apply Int32.toBitVec_inj.mp
  rw [Int32.toBitVec_or]
  show BitVec.ofNat 32 a ||| BitVec.ofNat 32 b = BitVec.ofNat 32 (a ||| b)
  simp
theorem nI_xor (a b : Nat) : nI a ^^^ nI b = nI (a ^^^ b) := by
  apply Int32.toBitVec_inj.mp
  rw [Int32.toBitVec_xor]
  show BitVec.ofNat 32 a ^^^ BitVec.ofNat 32 b = BitVec.ofNat 32 (a ^^^ b)
  simp
theorem bt_sm {b : Nat} (h : b < 32) : ((nI b &&& 31).toBitVec.smod 32).toNat = b := by
  have key : ∀ b : Fin 32, ((nI b.1 &&& 31).toBitVec.smod 32).toNat = b.1 := by decide +kernel
  exact key ⟨b, h⟩
theorem bt_shr {m b : Nat} (hm : m < 2 ^ 31) (hb : b < 32) : nI m >>> (nI b &&& 31) = nI (m / 2 ^ b) := pk_shrN hm _ b (bt_sm hb)
theorem bt_shl {b : Nat} (hb : b < 31) : nI 1 <<< (nI b &&& 31) = nI (2 ^ b) := by
  have h1 : 2 ^ b < 2 ^ 31 := Nat.pow_lt_pow_right (by omega) hb
  rw [pk_shlN _ b (bt_sm (by omega)) (by omega), Nat.one_mul]
theorem bt_and1 (n : Nat) : nI n &&& nI 1 = nI (n % 2) := by rw [nI_and, Nat.and_one_is_mod]
theorem bt_m1 : (-1 : Int32) = nI 4294967295 := by decide +kernel
theorem bt_clr {m b : Nat} (hm : m < 65536) : m &&& (2 ^ b ^^^ 4294967295) = m &&& (65535 ^^^ 2 ^ b) := by
  apply Nat.eq_of_testBit_eq
  intro i
  rw [Nat.testBit_and, Nat.testBit_and, Nat.testBit_xor, Nat.testBit_xor]
  by_cases h : i < 16
  · have key : ∀ i : Fin 16, (4294967295).testBit i.1 = (65535).testBit i.1 := by decide +kernel
    rw [key ⟨i, h⟩, Bool.xor_comm]
  · rw [Nat.testBit_lt_two_pow (x := m) (i := i) (Nat.lt_of_lt_of_le hm (by rw [show 65536 = 2 ^ 16 by rfl]; exact Nat.pow_le_pow_right (by omega) (by omega)))]
    rfl
theorem bt_test {m b : Nat} : m &&& 2 ^ b = 0 ↔ ¬ m / 2 ^ b % 2 = 1 := by
  have h0 : m.testBit b = decide (m / 2 ^ b % 2 = 1) := Nat.testBit_eq_decide_div_mod_eq
  constructor
  · intro h h1
    have h2 : (m &&& 2 ^ b).testBit b = false := by rw [h]; exact Nat.zero_testBit b
    rw [Nat.testBit_and, Nat.testBit_two_pow_self, h0] at h2
    simp [h1] at h2
  · intro h
    apply Nat.eq_of_testBit_eq
    intro i
    rw [Nat.testBit_and, Nat.testBit_two_pow, Nat.zero_testBit]
    by_cases hi : b = i
    · subst hi
      rw [h0]
      simp [h]
    · simp [hi]
theorem mkv_lt {m b is : Nat} (hm : m < 65536) (hb : b < 16) : mkv m b is < 65536 := by
  unfold mkv
  split
  · exact Nat.lt_of_le_of_lt Nat.and_le_left hm
  · have h1 : 2 ^ b < 2 ^ 16 := Nat.pow_lt_pow_right (by omega) hb
    exact Nat.or_lt_two_pow (n := 16) hm h1
theorem x_subI {x y : Int32} (h1 : -2147483648 ≤ x.toInt - y.toInt) (h2 : x.toInt - y.toInt < 2147483648) : (x - y).toInt = x.toInt - y.toInt := by
  rw [Int32.toInt_sub, Int.bmod_def]
  split <;> omega
theorem x_negI {x : Int32} (h1 : -2147483648 < x.toInt) : (-x).toInt = -x.toInt := by
  have hx := x.toInt_lt
  rw [Int32.toInt_neg, Int.bmod_def]
  split <;> omega
theorem pcn_le (x : Nat) : ∀ k, pcn x k ≤ k
  | 0 => Nat.le_refl _
  | k + 1 => by
    have h := pcn_le x k
    show pcn x k + x / 2 ^ k % 2 ≤ k + 1
    omega
theorem x_dec {a : Nat} (h : 0 < a) : nI a + Int32.ofInt (-1) = nI (a - 1) := by
  obtain ⟨b, rfl⟩ : ∃ b, a = b + 1 := ⟨a - 1, by omega⟩
  rw [show b + 1 - 1 = b by omega]
  exact pk_m1 b
/-- an answer that is a number or -1 -/
def oi (r : Option Nat) : Int32 := match r with
  | none => -1
  | some i => nI i
theorem oi_m1 {r : Option Nat} (h : ∀ i, r = some i → i < 2 ^ 31) : oi r = -1 ↔ r = none := by
  cases r with
  | none => exact ⟨fun _ => rfl, fun _ => rfl⟩
  | some i =>
    refine ⟨fun h1 => ?_, fun h1 => by cases h1⟩
    have h2 := congrArg Int32.toInt h1
    rw [show oi (some i) = nI i from rfl, nI_toInt (h i rfl), x_tm1] at h2
    omega
theorem oi_toInt {r : Option Nat} (h : ∀ i, r = some i → i < 2 ^ 31) : (oi r).toInt = oI r := by
  cases r with
  | none => exact x_tm1
  | some i => exact nI_toInt (h i rfl)
/-- the finds of heirs -/
def hg1 (σ : Sg) (d i : Nat) : Nat → Option Nat := fun k => if σ 2 (σ 3 (12 * i + k)) = 0 then some (σ 3 (12 * i + k)) else fh σ d (σ 3 (12 * i + k))
theorem fh_eq (σ : Sg) (d i : Nat) : fh σ (d + 1) i = ff (hg1 σ d i) 0 (σ 4 i - 0) := rfl
theorem ff_end {f : Option Nat} {g : Nat → Option Nat} {k n : Nat} (h : f = ff g k (n - k)) (hk : n ≤ k) : f = none := by
  rw [h, show n - k = 0 by omega]; rfl
theorem ff_some {f : Option Nat} {g : Nat → Option Nat} {k n a : Nat} (h : f = ff g k (n - k)) (hk : k < n) (hg : g k = some a) : f = some a := by
  obtain ⟨m, hm⟩ : ∃ m, n - k = m + 1 := ⟨n - k - 1, by omega⟩
  rw [h, hm, ff, hg]
theorem ff_none {f : Option Nat} {g : Nat → Option Nat} {k n : Nat} (h : f = ff g k (n - k)) (hk : k < n) (hg : g k = none) : f = ff g (k + 1) (n - (k + 1)) := by
  obtain ⟨m, hm⟩ : ∃ m, n - k = m + 1 := ⟨n - k - 1, by omega⟩
  rw [h, hm, ff, hg, show n - (k + 1) = m by omega]
theorem ff_lt {g : Nat → Option Nat} {B : Nat} : ∀ (n k a : Nat), (∀ j b, k ≤ j → j < k + n → g j = some b → b < B) → ff g k n = some a → a < B
  | 0, _, _, _, h => by cases h
  | n + 1, k, a, hb, h => by
    rw [ff] at h
    cases hg : g k with
    | some b =>
      rw [hg] at h
      cases h
      exact hb k a (by omega) (by omega) hg
    | none =>
      rw [hg] at h
      exact ff_lt n (k + 1) a (fun j b h1 h2 => hb j b (by omega) (by omega)) h
theorem Gd.heir {σ : Sg} (hg : Gd σ) {i k : Nat} (hi : i < σ 5 0) (hk : k < σ 4 i) : σ 3 (12 * i + k) < σ 5 0 := ((hg.2.2.1 i hi).2.2.2.1 k hk).1
theorem fh_lt {σ : Sg} (hg : Gd σ) : ∀ (d i a : Nat), i < σ 5 0 → fh σ d i = some a → a < σ 5 0
  | 0, _, _, _, h => by cases h
  | d + 1, i, a, hi, h => by
    refine ff_lt (σ 4 i) 0 a (fun j b _ h2 h3 => ?_) h
    have hh := hg.heir hi (k := j) (by omega)
    by_cases h0 : σ 2 (σ 3 (12 * i + j)) = 0
    · rw [if_pos h0] at h3; cases h3; exact hh
    · rw [if_neg h0] at h3; exact fh_lt hg d _ b hh h3
theorem lst_lt {σ : Sg} {t : Nat} : ∀ {n b : Nat}, lst σ t n = some b → b < n
  | 0, b, h => by cases h
  | k + 1, b, h => by
    rw [lst] at h
    cases hl : lst σ t k with
    | none =>
      rw [hl] at h
      dsimp only at h
      split at h
      · cases h
      · cases h; omega
    | some b' =>
      rw [hl] at h
      dsimp only at h
      have h1 := lst_lt hl
      split at h
      · cases h; omega
      · cases h; omega
/-- the order: a place of each of the first n -/
theorem ipl_le (yr o : Nat → Nat) (y : Nat) : ∀ a, ipl yr o y a ≤ a
  | 0 => Nat.le_refl _
  | a + 1 => by
    rw [ipl]
    split
    · have := ipl_le yr o y a; omega
    · omega
theorem od_lt {yr : Nat → Nat} : ∀ {n q : Nat}, q < n → od yr n q < n
  | 0, q, h => by omega
  | n + 1, q, h => by
    have hp := ipl_le yr (od yr n) (yr n) n
    rw [od]
    unfold insF
    split
    · have := od_lt (yr := yr) (n := n) (q := q) (by omega); omega
    · split
      · omega
      · have := od_lt (yr := yr) (n := n) (q := q - 1) (by omega); omega
theorem ordr_lt {σ : Sg} {i q : Nat} (h : q < σ 11 i) : ordr σ i q < σ 11 i := od_lt h
