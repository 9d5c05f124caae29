/-! NUMBERS -/
theorem x_inc (a n : Nat) {k : Int} (h : k = (n : Int)) : nI a + Int32.ofInt k = nI (a + n) := by
  subst h
  rw [← nI_add]
  rfl
theorem x_t0 : (0 : Int32).toInt = 0 := by decide +kernel
theorem x_tm1 : (-1 : Int32).toInt = -1 := by decide +kernel
theorem x_eqN {a b : Nat} (ha : a < 2 ^ 31) (hb : b < 2 ^ 31) : nI a = nI b ↔ a = b := nI_eq ha hb
theorem x_eqZ {a : Nat} (ha : a < 2 ^ 31) : nI a = 0 ↔ a = 0 := by rw [← nI_0]; exact nI_eq ha (by omega)
theorem x_nat {x : Int32} {n : Nat} (h0 : 0 ≤ x.toInt) (h1 : x.toInt < n) : ∃ i : Nat, i < n ∧ x = nI i := by
  have hb := x.toInt_lt
  refine ⟨x.toInt.toNat, by omega, Int32.toInt_inj.mp ?_⟩
  rw [nI_toInt (by omega)]
  omega
/-- an answer that is a truth -/
def tv (r : Int32) (P : Prop) : Prop := (r = 0 ∨ r = 1) ∧ (¬ r = 0 ↔ P)
theorem tv.t {r : Int32} {P : Prop} (h : tv r P) (h0 : ¬ r = 0) : P := h.2.mp h0
theorem tv.f {r : Int32} {P : Prop} (h : tv r P) (h0 : r = 0) : ¬ P := fun hp => h.2.mpr hp h0
theorem tv.yes {P : Prop} (h : P) : tv 1 P := ⟨Or.inr rfl, fun _ => h, fun _ => by decide⟩
theorem tv.no {P : Prop} (h : ¬ P) : tv 0 P := ⟨Or.inl rfl, fun z => absurd rfl z, fun z => absurd z h⟩
theorem tv.one {P : Prop} (h : P) : tv (nI 1) P := tv.yes h
theorem tv.zero {P : Prop} (h : ¬ P) : tv (nI 0) P := tv.no h
theorem tv.to {r : Int32} {P P' : Prop} (h : tv r P) (e : P ↔ P') : tv r P' := ⟨h.1, h.2.trans e⟩
theorem tv.cl {r : Int32} {P : Prop} (h : tv r P) : (r = 1 ∧ P) ∨ (r = 0 ∧ ¬ P) := by
  rcases h.1 with h0 | h0
  · exact Or.inr ⟨h0, h.f h0⟩
  · exact Or.inl ⟨h0, h.t (by rw [h0]; decide)⟩
theorem tv.nar {r : Int32} {P : Prop} (h : tv r P) : narrow .boolean (.int r) = .int r := by
  rcases h.1 with rfl | rfl <;> rfl
theorem tv.uniq {r r' : Int32} {P P' : Prop} (h : tv r P) (h' : tv r' P') (e : P ↔ P') : r = r' := by
  rcases h.cl with ⟨a, b⟩ | ⟨a, b⟩ <;> rcases h'.cl with ⟨a', b'⟩ | ⟨a', b'⟩
  · rw [a, a']
  · exact absurd (e.mp b) b'
  · exact absurd (e.mpr b') b
  · rw [a, a']
/-- a truth as a number -/
theorem tv.nat {r : Int32} {P : Prop} (h : tv r P) : ∃ n : Nat, n < 2 ∧ r = nI n ∧ (n = 1 ↔ P) := by
  rcases h.cl with ⟨a, b⟩ | ⟨a, b⟩
  · exact ⟨1, by omega, a, fun _ => b, fun _ => rfl⟩
  · exact ⟨0, by omega, a, fun z => absurd z (by omega), fun z => absurd z b⟩
theorem tv.ofNat {n : Nat} (h : n < 2) : tv (nI n) (n = 1) := by
  rcases (show n = 0 ∨ n = 1 by omega) with rfl | rfl
  · exact tv.zero (by omega)
  · exact tv.one rfl
/-! THE REFERENCE'S STATE: row j of 'σ' is its field j (a number at place 0, or an array); its order of stations 'ρ' and its last code 'la' apart -/
abbrev Sg : Type := Nat → Nat → Nat
def sup (σ : Sg) (j i v : Nat) : Sg := fun j' i' => if j' = j ∧ i' = i then v else σ j' i'
theorem sup_row (σ : Sg) {j j' : Nat} (i v : Nat) (h : j' ≠ j) : sup σ j i v j' = σ j' := by funext q; simp [sup, h]
theorem sup_self (σ : Sg) (j i v : Nat) : sup σ j i v j i = v := by simp [sup]
theorem sup_ne (σ : Sg) {j i v j' i' : Nat} (h : ¬ (j' = j ∧ i' = i)) : sup σ j i v j' i' = σ j' i' := by simp [sup, h]
def rup (ρ : Nat → Nat) (i v : Nat) : Nat → Nat := fun q => if q = i then v else ρ q
theorem nI_upd (f : Nat → Nat) (p v : Nat) : upd (fun i => nI (f i)) p (nI v) = fun i => nI (rup f p v i) := by
  funext q
  by_cases h : q = p <;> simp [upd, rup, h]
section XJ
variable {p : Program} {l : Launch} {e : Env} {R : Room} {s : State} {m : MethodId} {args : Array Value} {below : List Frame} {meth : Method} {c : Code} {H : Heap} {locs : List Loc} {cells slots : Nat} {Q : State → Prop} {D : xD} {sa : Nat → Nat} {A : Nat → Prop} {xa : xA} {G : xG} {ls : Array Slot}
/-- a truth that comes by several ways -/
theorem x_joinW {g : JFrame} {P : Prop} {mpc : Nat} {rest : List Value} (h : ∀ (H : Heap) (locs : List Loc) (r : Int32), xW D sa A s xa G H locs → tv r P → W p l e R s m args below meth c H locs cells slots Q (F0 m mpc ls (.int r :: rest)))
    (k : (∀ (H : Heap) (locs : List Loc) (r : Int32), xW D sa A s xa G H locs → tv r P → W p l e R s m args below meth c H locs cells slots Q (F0 m mpc ls (.int r :: rest))) → W p l e R s m args below meth c H locs cells slots Q g) : W p l e R s m args below meth c H locs cells slots Q g := k h
end XJ
section XL
variable {p : Program} {l : Launch} {e : Env} {R : Room} {s : State} {m : MethodId} {args : Array Value} {below : List Frame} {meth : Method} {c : Code} {H : Heap} {locs : List Loc} {cells slots : Nat} {Q : State → Prop} {ls : Array Slot}
/-- a loop: a number that falls, an invariant -/
theorem x_loop {X : Type} {I : Nat → X → Heap → List Loc → Array Slot → Prop} {hd : Nat} (step : ∀ (n : Nat) (x : X) (H : Heap) (locs : List Loc) (ls : Array Slot), I n x H locs ls → (∀ (n' : Nat) (x' : X) (H' : Heap) (locs' : List Loc) (ls' : Array Slot), n' < n → I n' x' H' locs' ls' → W p l e R s m args below meth c H' locs' cells slots Q (F0 m hd ls' [])) → W p l e R s m args below meth c H locs cells slots Q (F0 m hd ls []))
    {n : Nat} {x : X} (h0 : I n x H locs ls) : W p l e R s m args below meth c H locs cells slots Q (F0 m hd ls []) := by
  have key : ∀ (k n : Nat), n < k → ∀ (x : X) (H : Heap) (locs : List Loc) (ls : Array Slot), I n x H locs ls → W p l e R s m args below meth c H locs cells slots Q (F0 m hd ls []) := by
    intro k
    induction k with
    | zero => intro n hn; omega
    | succ k ih => intro n hn x H locs ls hI; exact step n x H locs ls hI (fun n' x' H' locs' ls' hlt hI' => ih n' (by omega) x' H' locs' ls' hI')
  exact key (n + 1) n (by omega) x H locs ls h0
end XL
