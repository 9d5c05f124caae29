/-! WHAT THE CALLS ANSWER, in numbers -/
def xn (x : Int32) : Nat := x.toInt.toNat
theorem xn_nI {n : Nat} (h : n < 2 ^ 31) : xn (nI n) = n := by unfold xn; rw [nI_toInt h]; rfl
/-- which exception: 1, 2, 3 by the first of three conditions that fails; 0: none -/
def gk (P Q R : Prop) (k : Nat) : Prop := (¬ P ∧ k = 1) ∨ (P ∧ ¬ Q ∧ k = 2) ∨ (P ∧ Q ∧ R ∧ k = 0) ∨ (P ∧ Q ∧ ¬ R ∧ k = 3)
theorem gk.uniq {P Q R : Prop} {k k' : Nat} (h : gk P Q R k) (h' : gk P Q R k') : k = k' := by
  unfold gk at h h'
  grind
theorem gk.to {P Q R P' Q' R' : Prop} {k : Nat} (h : gk P Q R k) (hp : P ↔ P') (hq : P → (Q ↔ Q')) (hr : P → Q → (R ↔ R')) : gk P' Q' R' k := by
  unfold gk at h ⊢
  grind
def pP (σ : Sg) (x : Int32) : Prop := 0 ≤ x.toInt ∧ x.toInt < σ 5 0
def pT (σ : Sg) (x : Int32) : Prop := 0 ≤ x.toInt ∧ x.toInt < σ 12 0
def pL (x : Int32) : Prop := 0 ≤ x.toInt ∧ x.toInt < 5
def pS (σ : Sg) (t x : Int32) : Prop := pT σ t ∧ 0 ≤ x.toInt ∧ x.toInt < σ 11 (xn t)
def rg (x : Int32) (a b : Int) : Prop := a ≤ x.toInt ∧ x.toInt ≤ b
def oI (r : Option Nat) : Int := match r with
  | none => -1
  | some i => i
/-- somebody of the group is persecuted -/
def sPers (σ : Sg) (g a y : Nat) : Prop := ∃ k, k < σ 7 0 ∧ σ 6 (4 * k) = g ∧ σ 6 (4 * k + 1) = a ∧ σ 6 (4 * k + 2) ≤ y ∧ y ≤ σ 6 (4 * k + 3)
def hH (σ : Sg) (i h : Nat) : Prop := ∃ k, k < σ 4 i ∧ σ 3 (12 * i + k) = h
/-- the first k of a row whose find isn't none -/
def ff (g : Nat → Option Nat) : Nat → Nat → Option Nat
  | _, 0 => none
  | k, n + 1 => match g k with
    | some a => some a
    | none => ff g (k + 1) n
/-- the heir through d generations -/
def fh (σ : Sg) : Nat → Nat → Option Nat
  | 0, _ => none
  | d + 1, i => ff (fun k => if σ 2 (σ 3 (12 * i + k)) = 0 then some (σ 3 (12 * i + k)) else fh σ d (σ 3 (12 * i + k))) 0 (σ 4 i)
/-- bits told -/
def pcn (x : Nat) : Nat → Nat
  | 0 => 0
  | k + 1 => pcn x k + x / 2 ^ k % 2
def lk (σ : Sg) (i j : Nat) : Int := 10 * (pcn (σ 9 i &&& σ 9 j) 16 : Int) - 5 * (pcn (σ 9 i ^^^ σ 9 j) 16 : Int) - (if (σ 10 i : Int) - σ 10 j < 0 then -((σ 10 i : Int) - σ 10 j) else (σ 10 i : Int) - σ 10 j)
def lst (σ : Sg) (t : Nat) : Nat → Option Nat
  | 0 => none
  | k + 1 => match lst σ t k with
    | none => if k = t then none else some k
    | some b => if k ≠ t ∧ lk σ t b < lk σ t k then some k else some b
/-- the order of stations: the place of a new one, sought from the end -/
def ipl (yr o : Nat → Nat) (y : Nat) : Nat → Nat
  | 0 => 0
  | a + 1 => if y < yr (o a) then ipl yr o y a else a + 1
def insF (o : Nat → Nat) (n p : Nat) : Nat → Nat := fun q => if q < p then o q else if q = p then n else o (q - 1)
def od (yr : Nat → Nat) : Nat → Nat → Nat
  | 0 => fun _ => 0
  | n + 1 => insF (od yr n) n (ipl yr (od yr n) (yr n) n)
def yrs (σ : Sg) (i : Nat) : Nat → Nat := fun k => σ 16 (8 * i + k)
def ordr (σ : Sg) (i : Nat) : Nat → Nat := od (yrs σ i) (σ 11 i)
/-- by places of the order 'o' of a thing i -/
def lossO (σ : Sg) (i : Nat) (o : Nat → Nat) (q : Nat) : Prop := q ≠ 0 ∧ (3 ≤ σ 14 (8 * i + o q) ∨ (σ 14 (8 * i + o q) = 0 ∧ σ 17 (8 * i + o q) = 0 ∧ sPers σ (σ 1 (σ 13 (8 * i + o (q - 1)))) (σ 15 (8 * i + o q)) (σ 16 (8 * i + o q))))
def untO (σ : Sg) (i : Nat) (o : Nat → Nat) (n q : Nat) : Nat := if q + 1 < n then σ 16 (8 * i + o (q + 1)) else σ 0 0
def faiO (σ : Sg) (i : Nat) (o : Nat → Nat) (n q : Nat) : Prop := σ 14 (8 * i + o q) = 0 ∧ 0 < σ 8 (σ 15 (8 * i + o q)) ∧ (σ 8 (σ 15 (8 * i + o q)) : Int) ≤ (untO σ i o n q : Int) - σ 16 (8 * i + o q)
/-- the title passes at place q, t having it ahead -/
def brO (σ : Sg) (i : Nat) (o : Nat → Nat) (n q t : Nat) : Prop := σ 18 (8 * i + o q) = 1 ∨ (¬ lossO σ i o q ∧ (t = σ 13 (8 * i + o (q - 1)) ∨ faiO σ i o n q))
/-- 't has the title behind place q' -/
def ttl (σ : Sg) (i : Nat) (o : Nat → Nat) (n : Nat) : Nat → Nat → Prop
  | 0, t => t = σ 13 (8 * i + o 0)
  | q + 1, t => ∃ t0, ttl σ i o n q t0 ∧ ((brO σ i o n (q + 1) t0 ∧ t = σ 13 (8 * i + o (q + 1))) ∨ (¬ brO σ i o n (q + 1) t0 ∧ t = t0))
/-- who lives for somebody -/
def lif (σ : Sg) (t : Nat) : Option Nat := if σ 2 t = 0 then some t else fh σ 3 t
def hold (σ : Sg) (i : Nat) : Option Nat := if σ 11 i = 0 then none else some (σ 13 (8 * i + ordr σ i (σ 11 i - 1)))
def own (σ : Sg) (i : Nat) (r : Option Nat) : Prop := (σ 11 i = 0 ∧ r = none) ∨ (0 < σ 11 i ∧ ∃ t, ttl σ i (ordr σ i) (σ 11 i) (σ 11 i - 1) t ∧ r = lif σ t)
/-- 'c of the first n things are owned by x and held by others' -/
def cnt (σ : Sg) (x : Nat) : Nat → Nat → Prop
  | 0, c => c = 0
  | i + 1, c => ∃ c0 r, cnt σ x i c0 ∧ own σ i r ∧ ((r = some x ∧ hold σ i ≠ some x ∧ c = c0 + 1) ∨ (¬ (r = some x ∧ hold σ i ≠ some x) ∧ c = c0))
def lossT (σ : Sg) (i s : Nat) : Prop := ∃ q, q < σ 11 i ∧ ordr σ i q = s ∧ lossO σ i (ordr σ i) q
theorem ttl.uniq {σ : Sg} {i : Nat} {o : Nat → Nat} {n : Nat} : ∀ {q t t' : Nat}, ttl σ i o n q t → ttl σ i o n q t' → t = t'
  | 0, t, t', h, h' => h.trans h'.symm
  | q + 1, t, t', ⟨t0, h0, h1⟩, ⟨t0', h0', h1'⟩ => by
    cases ttl.uniq h0 h0'
    rcases h1 with ⟨a, b⟩ | ⟨a, b⟩ <;> rcases h1' with ⟨a', b'⟩ | ⟨a', b'⟩
    · exact b.trans b'.symm
    · exact absurd a a'
    · exact absurd a' a
    · exact b.trans b'.symm
theorem own.uniq {σ : Sg} {i : Nat} {r r' : Option Nat} (h : own σ i r) (h' : own σ i r') : r = r' := by
  rcases h with ⟨a, b⟩ | ⟨a, t, b, d⟩ <;> rcases h' with ⟨a', b'⟩ | ⟨a', t', b', d'⟩
  · rw [b, b']
  · omega
  · omega
  · cases ttl.uniq b b'
    rw [d, d']
theorem cnt.uniq {σ : Sg} {x : Nat} : ∀ {n k k' : Nat}, cnt σ x n k → cnt σ x n k' → k = k'
  | 0, k, k', h, h' => h.trans h'.symm
  | n + 1, k, k', ⟨c0, r, h0, h1, h2⟩, ⟨c0', r', h0', h1', h2'⟩ => by
    cases cnt.uniq h0 h0'
    cases own.uniq h1 h1'
    rcases h2 with ⟨a, b, d⟩ | ⟨a, d⟩ <;> rcases h2' with ⟨a', b', d'⟩ | ⟨a', d'⟩
    · rw [d, d']
    · exact absurd ⟨a, b⟩ a'
    · exact absurd ⟨a', b'⟩ a
    · rw [d, d']
/-- what every state of a run keeps -/
def Gd (σ : Sg) : Prop := (∀ j i, σ j i < 65536) ∧ (σ 5 0 ≤ 12 ∧ σ 7 0 ≤ 20 ∧ σ 12 0 ≤ 10 ∧ 1900 ≤ σ 0 0 ∧ σ 0 0 ≤ 2100) ∧
  (∀ i, i < σ 5 0 → σ 1 i < 4 ∧ σ 2 i < 2 ∧ σ 4 i < 12 ∧ (∀ k, k < σ 4 i → σ 3 (12 * i + k) < σ 5 0 ∧ σ 3 (12 * i + k) ≠ i) ∧ (∀ k k', k < σ 4 i → k' < σ 4 i → σ 3 (12 * i + k) = σ 3 (12 * i + k') → k = k')) ∧
  (∀ i, σ 5 0 ≤ i → σ 2 i = 0 ∧ σ 4 i = 0) ∧
  (∀ i, i < σ 12 0 → σ 10 i ≤ 1000 ∧ σ 11 i ≤ 8 ∧ ∀ k, k < σ 11 i → σ 13 (8 * i + k) < σ 5 0 ∧ σ 14 (8 * i + k) < 6 ∧ σ 15 (8 * i + k) < 5 ∧ 1900 ≤ σ 16 (8 * i + k) ∧ σ 16 (8 * i + k) ≤ σ 0 0 ∧ σ 17 (8 * i + k) < 2 ∧ σ 18 (8 * i + k) < 2) ∧
  (∀ i, σ 12 0 ≤ i → σ 11 i = 0) ∧ (∀ i k, σ 11 i ≤ k → k < 8 → σ 17 (8 * i + k) = 0 ∧ σ 18 (8 * i + k) = 0) ∧ (∀ i, σ 8 i ≤ 60) ∧ (∀ i, σ 14 i < 6)
