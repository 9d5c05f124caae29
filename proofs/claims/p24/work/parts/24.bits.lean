/-! the JDK's count of bits, on numbers below 65536 -/
def bcN (x : Nat) : Nat := (fun a => (fun b => (fun c => (fun d => Nat.land (Nat.add d (Nat.div d 65536)) 63) (Nat.add c (Nat.div c 256))) (Nat.land (Nat.add b (Nat.div b 16)) 252645135)) (Nat.add (Nat.land a 858993459) (Nat.land (Nat.div a 4) 858993459))) (Nat.sub x (Nat.land (Nat.div x 2) 1431655765))
def pcB (x : Nat) : Nat := Nat.add (Nat.mod x 2) (Nat.add (Nat.mod (Nat.div x 2) 2) (Nat.add (Nat.mod (Nat.div x 4) 2) (Nat.add (Nat.mod (Nat.div x 8) 2) (Nat.add (Nat.mod (Nat.div x 16) 2) (Nat.add (Nat.mod (Nat.div x 32) 2) (Nat.add (Nat.mod (Nat.div x 64) 2) (Nat.mod (Nat.div x 128) 2)))))))
def bcR (h : Nat) : Nat → Bool
  | 0 => true
  | n + 1 => Nat.beq (bcN (Nat.add (Nat.mul 256 h) n)) (Nat.add (pcB h) (pcB n)) && bcR h n
def bcA : Nat → Nat → Bool
  | _, 0 => true
  | a, n + 1 => bcR (a + n) 256 && bcA a n
theorem bcA_0 : bcA 0 32 = true := by decide +kernel
theorem bcA_1 : bcA 32 32 = true := by decide +kernel
theorem bcA_2 : bcA 64 32 = true := by decide +kernel
theorem bcA_3 : bcA 96 32 = true := by decide +kernel
theorem bcA_4 : bcA 128 32 = true := by decide +kernel
theorem bcA_5 : bcA 160 32 = true := by decide +kernel
theorem bcA_6 : bcA 192 32 = true := by decide +kernel
theorem bcA_7 : bcA 224 32 = true := by decide +kernel
theorem bcR_of {h : Nat} : ∀ {n : Nat}, bcR h n = true → ∀ l, l < n → bcN (256 * h + l) = pcB h + pcB l
  | 0, _, l, hl => by omega
  | n + 1, hb, l, hl => by
    rw [bcR, Bool.and_eq_true] at hb
    by_cases h1 : l = n
    · subst h1
      exact Nat.eq_of_beq_eq_true hb.1
    · exact bcR_of hb.2 l (by omega)
theorem bcA_of {a : Nat} : ∀ {n : Nat}, bcA a n = true → ∀ h, a ≤ h → h < a + n → bcR h 256 = true
  | 0, _, h, h1, h2 => by omega
  | n + 1, hb, h, h1, h2 => by
    rw [bcA, Bool.and_eq_true] at hb
    by_cases h3 : h = a + n
    · rw [h3]; exact hb.1
    · exact bcA_of hb.2 h h1 (by omega)
theorem bc_all {h : Nat} (hh : h < 256) : bcR h 256 = true := by
  by_cases h1 : h < 32
  · exact bcA_of bcA_0 h (by omega) (by omega)
  by_cases h2 : h < 64
  · exact bcA_of bcA_1 h (by omega) (by omega)
  by_cases h3 : h < 96
  · exact bcA_of bcA_2 h (by omega) (by omega)
  by_cases h4 : h < 128
  · exact bcA_of bcA_3 h (by omega) (by omega)
  by_cases h5 : h < 160
  · exact bcA_of bcA_4 h (by omega) (by omega)
  by_cases h6 : h < 192
  · exact bcA_of bcA_5 h (by omega) (by omega)
  by_cases h7 : h < 224
  · exact bcA_of bcA_6 h (by omega) (by omega)
  · exact bcA_of bcA_7 h (by omega) (by omega)
theorem pcB_eq (x : Nat) : pcB x = x % 2 + (x / 2 % 2 + (x / 4 % 2 + (x / 8 % 2 + (x / 16 % 2 + (x / 32 % 2 + (x / 64 % 2 + x / 128 % 2)))))) := rfl
theorem pcn_16 (x : Nat) : pcn x 16 = x % 2 + x / 2 % 2 + x / 4 % 2 + x / 8 % 2 + x / 16 % 2 + x / 32 % 2 + x / 64 % 2 + x / 128 % 2 + x / 256 % 2 + x / 512 % 2 + x / 1024 % 2 + x / 2048 % 2 + x / 4096 % 2 + x / 8192 % 2 + x / 16384 % 2 + x / 32768 % 2 := by
  simp [pcn]
theorem bc_pcn {x : Nat} (hx : x < 65536) : bcN x = pcn x 16 := by
  have h1 := bcR_of (bc_all (h := x / 256) (by omega)) (x % 256) (by omega)
  rw [show 256 * (x / 256) + x % 256 = x by omega] at h1
  rw [h1, pcB_eq, pcB_eq, pcn_16]
  omega
