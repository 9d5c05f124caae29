/-! NEW CELLS OF THE CLASS -/
theorem xup_sq (G : xG) (k i : Nat) (a b : va_E) : xup (xup G k i a) k i b = xup G k i b := by
  funext x y
  unfold xup
  split <;> rfl
theorem xup_sq1 (G : xG) (k i k' i' : Nat) (a b d : va_E) : xup (xup (xup G k i a) k' i' d) k i b = xup (xup G k' i' d) k i b := by
  funext x y
  unfold xup
  by_cases h : x = k ∧ y = i
  · rw [if_pos h, if_pos h]
  · rw [if_neg h, if_neg h, if_neg h]
section WSt
variable {p : Program} {l : Launch} {e : Env} {R : Room} {s : State} {m : MethodId} {args : Array Value} {below : List Frame} {meth : Method} {c : Code} {H : Heap} {locs : List Loc} {cells slots : Nat} {Q : State → Prop} {ls : Array Slot} {pc : Nat}
theorem W_stk {st st' : List Value} (h : st = st') (k : W p l e R s m args below meth c H locs cells slots Q (F0 m pc ls st')) : W p l e R s m args below meth c H locs cells slots Q (F0 m pc ls st) := by rw [h]; exact k
end WSt
/-- the world by other addresses of what isn't there -/
theorem xGs_xa (G0 : xG) (D : xD) {xa xa1 : xA} {σ : Sg} {τ : Tg} (hg : Gd σ) (hL : LL σ τ) (hT : TE σ τ) (h : ∀ k i, (k = 10 ∨ k = 11 → i < σ 5 0) → (k = 12 → i < σ 7 0) → (k = 13 ∨ k = 14 → i < σ 12 0) → (k = 15 → lvS σ i) → xa1 k i = xa k i) : xGs G0 D xa σ τ = xGs G0 D xa1 σ τ := by
  have hs8 := hg.hs8
  have q0 : ∀ k, k < 10 → ∀ i, xa1 k i = xa k i := fun k hk i => h k i (by omega) (by omega) (by omega) (by omega)
  have q10 : ∀ i, i < σ 5 0 → xa1 10 i = xa 10 i := fun i hi => h 10 i (fun _ => hi) (by omega) (by omega) (by omega)
  have q11 : ∀ i, i < σ 5 0 → xa1 11 i = xa 11 i := fun i hi => h 11 i (fun _ => hi) (by omega) (by omega) (by omega)
  have q12 : ∀ i, i < σ 7 0 → xa1 12 i = xa 12 i := fun i hi => h 12 i (by omega) (fun _ => hi) (by omega) (by omega)
  have q13 : ∀ i, i < σ 12 0 → xa1 13 i = xa 13 i := fun i hi => h 13 i (by omega) (by omega) (fun _ => hi) (by omega)
  have q14 : ∀ i, i < σ 12 0 → xa1 14 i = xa 14 i := fun i hi => h 14 i (by omega) (by omega) (fun _ => hi) (by omega)
  have q15 : ∀ i, lvS σ i → xa1 15 i = xa 15 i := fun i hi => h 15 i (by omega) (by omega) (by omega) (fun _ => hi)
  have m15 : ∀ o : Option Nat, (∀ j, o = some j → lvS σ j) → o.map (xa 15) = o.map (xa1 15) := fun o ho => by
    cases o with
    | none => rfl
    | some j => show some _ = some _; rw [q15 j (ho j rfl)]
  funext k i
  unfold xGs
  split
  case isFalse => rfl
  unfold xE
  split
  · unfold xfs; rw [q0 1 (by omega), q0 2 (by omega), q0 3 (by omega), q0 4 (by omega)]
  · have hf : (fun j => if j < σ 5 0 then some (xa 10 j) else none) = (fun j => if j < σ 5 0 then some (xa1 10 j) else none) := by
      funext j; by_cases hj : j < σ 5 0
      · rw [if_pos hj, if_pos hj, q10 j hj]
      · rw [if_neg hj, if_neg hj]
    rw [hf]
  · have hf : (fun j => if j < σ 7 0 then some (xa 12 j) else none) = (fun j => if j < σ 7 0 then some (xa1 12 j) else none) := by
      funext j; by_cases hj : j < σ 7 0
      · rw [if_pos hj, if_pos hj, q12 j hj]
      · rw [if_neg hj, if_neg hj]
    rw [hf]
  · rfl
  · have hf : (fun j => if j < σ 12 0 then some (xa 13 j) else none) = (fun j => if j < σ 12 0 then some (xa1 13 j) else none) := by
      funext j; by_cases hj : j < σ 12 0
      · rw [if_pos hj, if_pos hj, q13 j hj]
      · rw [if_neg hj, if_neg hj]
    rw [hf]
  · split
    case isFalse => rfl
    case isTrue hi =>
      unfold pfs
      have e : (τ 0 i).map (xa 10) = (τ 0 i).map (xa1 10) := by
        cases ho : τ 0 i with
        | none => rfl
        | some j => show some _ = some _; rw [q10 j (hT i j hi ho)]
      rw [q11 i hi, e]
  · split
    case isFalse => rfl
    case isTrue hi =>
      have hf : (fun j => if j < σ 4 i then some (xa 10 (σ 3 (12 * i + j))) else none) = (fun j => if j < σ 4 i then some (xa1 10 (σ 3 (12 * i + j))) else none) := by
        funext j; by_cases hj : j < σ 4 i
        · rw [if_pos hj, if_pos hj, q10 _ (hg.heir hi hj)]
        · rw [if_neg hj, if_neg hj]
      rw [hf]
  · rfl
  · split
    case isFalse => rfl
    case isTrue hi =>
      have h8 := hs8 i
      have hl := hL i hi
      unfold tfs
      rw [q14 i hi, m15 (τ 1 i) (fun j hj => ?_), m15 (τ 2 i) (fun j hj => ?_)]
      · rw [hl.2.1] at hj
        split at hj
        · cases hj
        · cases hj; exact lvS_of hi (ordr_lt (by omega)) h8
      · rw [hl.1] at hj
        split at hj
        · cases hj
        · cases hj; exact lvS_of hi (ordr_lt (by omega)) h8
  · split
    case isFalse => rfl
    case isTrue hi =>
      have h8 := hs8 i
      have hf : (fun j => if j < σ 11 i then some (xa 15 (8 * i + j)) else none) = (fun j => if j < σ 11 i then some (xa1 15 (8 * i + j)) else none) := by
        funext j; by_cases hj : j < σ 11 i
        · rw [if_pos hj, if_pos hj, q15 _ (lvS_of hi hj h8)]
        · rw [if_neg hj, if_neg hj]
      rw [hf]
  · split
    case isFalse => rfl
    case isTrue hi =>
      have h8 := hs8 (i / 8)
      have hij : i = 8 * (i / 8) + i % 8 := by omega
      have hp := hg.party hi.1 hi.2
      rw [← hij] at hp
      obtain ⟨q, hq, hqk⟩ := od_surj (yr := yrs σ (i / 8)) hi.2
      have hqk : ordr σ (i / 8) q = i % 8 := hqk
      have hl := (hL (i / 8) hi.1).2.2 q hq
      rw [hqk, ← hij] at hl
      unfold sfs
      rw [q10 _ hp, m15 (τ 3 i) (fun j hj => ?_), m15 (τ 4 i) (fun j hj => ?_)]
      · rw [hl.2] at hj
        split at hj
        · cases hj; exact lvS_of hi.1 (ordr_lt (by omega)) h8
        · cases hj
      · rw [hl.1] at hj
        split at hj
        · cases hj
        · cases hj; exact lvS_of hi.1 (ordr_lt (by omega)) h8
  · rfl
section XFA
variable (G0 : xG) (D : xD) (xa : xA) {σ : Sg} {τ : Tg}
theorem rfs_up {cA : ClassId} {n c : Nat} {f : Nat → Nat} : rfs cA n (va_up (fun j => if j < c then some (f j) else none) c (some (f c))) = rfs cA n (fun j => if j < c + 1 then some (f j) else none) := by
  have h : va_up (fun j => if j < c then some (f j) else none) c (some (f c)) = fun j => if j < c + 1 then some (f j) else none := by
    funext j
    unfold va_up
    by_cases hj : j = c
    · rw [if_pos hj, if_pos (by omega), hj]
    · rw [if_neg hj]
      try dsimp only
      by_cases hj2 : j < c
      · rw [if_pos hj2, if_pos (by omega)]
      · rw [if_neg hj2, if_neg (by omega)]
  rw [h]
theorem rfs_none {cA : ClassId} {n c : Nat} {f : Nat → Nat} (hc : c = 0) : rfs cA n (fun _ => none) = rfs cA n (fun j => if j < c then some (f j) else none) := by
  have h : (fun j => if j < c then some (f j) else none) = fun _ => none := by
    funext j
    rw [if_neg (by omega)]
  rw [h]
theorem xf_person (hg : Gd σ) {g : Nat} : xup (xup (xup (xup (xGs G0 D xa σ τ) 11 (σ 5 0) (rfs (D.2 0) 11 (fun _ => none))) 10 (σ 5 0) (.inr (1, [.int (nI (σ 5 0)), .int (nI g), .int (nI 0), .ref (xa 11 (σ 5 0)), .int (nI 0), .null]))) 1 0 (rfs (D.2 0) 12 (va_up (fun j => if j < σ 5 0 then some (xa 10 j) else none) (σ 5 0) (some (xa 10 (σ 5 0)))))) 0 0 (.inr (4, (xfs xa σ).set 1 (.int (nI (σ 5 0 + 1))))) = xGs G0 D xa (sup (sup σ 1 (σ 5 0) g) 5 0 (σ 5 0 + 1)) (tup τ 0 (σ 5 0) none) := by
  obtain ⟨z2, z4⟩ := hg.2.2.2.1 (σ 5 0) (Nat.le_refl _)
  have s5 : sup (sup σ 1 (σ 5 0) g) 5 0 (σ 5 0 + 1) 5 0 = σ 5 0 + 1 := sup_self _ _ _ _
  have s1 : sup (sup σ 1 (σ 5 0) g) 5 0 (σ 5 0 + 1) 1 (σ 5 0) = g := (sup_ne _ (by omega)).trans (sup_self _ _ _ _)
  have s1n : ∀ i, i ≠ σ 5 0 → sup (sup σ 1 (σ 5 0) g) 5 0 (σ 5 0 + 1) 1 i = σ 1 i := fun i hi => (sup_ne _ (by omega)).trans (sup_ne _ (fun h => hi h.2))
  have s2 : sup (sup σ 1 (σ 5 0) g) 5 0 (σ 5 0 + 1) 2 (σ 5 0) = 0 := ((sup_ne _ (by omega)).trans (sup_ne _ (by omega))).trans z2
  have s4 : sup (sup σ 1 (σ 5 0) g) 5 0 (σ 5 0 + 1) 4 (σ 5 0) = 0 := ((sup_ne _ (by omega)).trans (sup_ne _ (by omega))).trans z4
  funext k i
  by_cases a0 : k = 0 ∧ i = 0
  · obtain ⟨rfl, rfl⟩ := a0
    rw [xup_self]
    rfl
  rw [xup_ne _ _ a0]
  by_cases a1 : k = 1 ∧ i = 0
  · obtain ⟨rfl, rfl⟩ := a1
    rw [xup_self, rfs_up]
    rfl
  rw [xup_ne _ _ a1]
  by_cases a2 : k = 10 ∧ i = σ 5 0
  · obtain ⟨rfl, rfl⟩ := a2
    rw [xup_self, xg_p G0 D xa (sup (sup σ 1 (σ 5 0) g) 5 0 (σ 5 0 + 1)) (tup τ 0 (σ 5 0) none) (i := σ 5 0) (by rw [s5]; omega)]
    unfold pfs
    rw [s1, s2, s4, tup_self]
    rfl
  rw [xup_ne _ _ a2]
  by_cases a3 : k = 11 ∧ i = σ 5 0
  · obtain ⟨rfl, rfl⟩ := a3
    rw [xup_self, xg_h G0 D xa (sup (sup σ 1 (σ 5 0) g) 5 0 (σ 5 0 + 1)) (tup τ 0 (σ 5 0) none) (i := σ 5 0) (by rw [s5]; omega), rfs_none s4]
  rw [xup_ne _ _ a3]
  unfold xGs
  split
  case isFalse => rfl
  unfold xE
  split
  case h_1 => rw [if_neg (fun h => a0 ⟨rfl, h⟩), if_neg (fun h => a0 ⟨rfl, h⟩)]
  case h_2 => rw [if_neg (fun h => a1 ⟨rfl, h⟩), if_neg (fun h => a1 ⟨rfl, h⟩)]
  case h_6 =>
    have hi : i ≠ σ 5 0 := fun h => a2 ⟨rfl, h⟩
    rw [s5]
    by_cases hi2 : i < σ 5 0
    · rw [if_pos hi2, if_pos (by omega)]
      unfold pfs
      rw [s1n i hi, tup_ne τ (fun h => hi h.2)]
      rfl
    · rw [if_neg hi2, if_neg (by omega)]
  case h_7 =>
    have hi : i ≠ σ 5 0 := fun h => a3 ⟨rfl, h⟩
    rw [s5]
    by_cases hi2 : i < σ 5 0
    · rw [if_pos hi2, if_pos (by omega)]
      rfl
    · rw [if_neg hi2, if_neg (by omega)]
  all_goals rfl
theorem xf_thing (hg : Gd σ) {mk sz : Nat} : xup (xup (xup (xup (xGs G0 D xa σ τ) 14 (σ 12 0) (rfs (D.2 3) 8 (fun _ => none))) 13 (σ 12 0) (.inr (3, [.int (nI mk), .int (nI sz), .ref (xa 14 (σ 12 0)), .int (nI 0), .null, .null]))) 4 0 (rfs (D.2 2) 10 (va_up (fun j => if j < σ 12 0 then some (xa 13 j) else none) (σ 12 0) (some (xa 13 (σ 12 0)))))) 0 0 (.inr (4, (xfs xa σ).set 7 (.int (nI (σ 12 0 + 1))))) = xGs G0 D xa (sup (sup (sup σ 9 (σ 12 0) mk) 10 (σ 12 0) sz) 12 0 (σ 12 0 + 1)) (tup (tup τ 1 (σ 12 0) none) 2 (σ 12 0) none) := by
  have z11 := hg.2.2.2.2.2.1 (σ 12 0) (Nat.le_refl _)
  have s12 : sup (sup (sup σ 9 (σ 12 0) mk) 10 (σ 12 0) sz) 12 0 (σ 12 0 + 1) 12 0 = σ 12 0 + 1 := sup_self _ _ _ _
  have s9 : sup (sup (sup σ 9 (σ 12 0) mk) 10 (σ 12 0) sz) 12 0 (σ 12 0 + 1) 9 (σ 12 0) = mk := ((sup_ne _ (by omega)).trans (sup_ne _ (by omega))).trans (sup_self _ _ _ _)
  have s10 : sup (sup (sup σ 9 (σ 12 0) mk) 10 (σ 12 0) sz) 12 0 (σ 12 0 + 1) 10 (σ 12 0) = sz := (sup_ne _ (by omega)).trans (sup_self _ _ _ _)
  have s11 : sup (sup (sup σ 9 (σ 12 0) mk) 10 (σ 12 0) sz) 12 0 (σ 12 0 + 1) 11 (σ 12 0) = 0 := (((sup_ne _ (by omega)).trans (sup_ne _ (by omega))).trans (sup_ne _ (by omega))).trans z11
  have s9n : ∀ i, i ≠ σ 12 0 → sup (sup (sup σ 9 (σ 12 0) mk) 10 (σ 12 0) sz) 12 0 (σ 12 0 + 1) 9 i = σ 9 i := fun i hi => ((sup_ne _ (by omega)).trans (sup_ne _ (by omega))).trans (sup_ne _ (fun h => hi h.2))
  have s10n : ∀ i, i ≠ σ 12 0 → sup (sup (sup σ 9 (σ 12 0) mk) 10 (σ 12 0) sz) 12 0 (σ 12 0 + 1) 10 i = σ 10 i := fun i hi => ((sup_ne _ (by omega)).trans (sup_ne _ (fun h => hi h.2))).trans (sup_ne _ (by omega))
  funext k i
  by_cases a0 : k = 0 ∧ i = 0
  · obtain ⟨rfl, rfl⟩ := a0
    rw [xup_self]
    rfl
  rw [xup_ne _ _ a0]
  by_cases a1 : k = 4 ∧ i = 0
  · obtain ⟨rfl, rfl⟩ := a1
    rw [xup_self, rfs_up]
    rfl
  rw [xup_ne _ _ a1]
  by_cases a2 : k = 13 ∧ i = σ 12 0
  · obtain ⟨rfl, rfl⟩ := a2
    rw [xup_self, xg_t G0 D xa (sup (sup (sup σ 9 (σ 12 0) mk) 10 (σ 12 0) sz) 12 0 (σ 12 0 + 1)) (tup (tup τ 1 (σ 12 0) none) 2 (σ 12 0) none) (i := σ 12 0) (by rw [s12]; omega)]
    unfold tfs
    rw [s9, s10, s11, tup_self, tup_ne _ (by omega), tup_self]
    rfl
  rw [xup_ne _ _ a2]
  by_cases a3 : k = 14 ∧ i = σ 12 0
  · obtain ⟨rfl, rfl⟩ := a3
    rw [xup_self, xg_sa G0 D xa (sup (sup (sup σ 9 (σ 12 0) mk) 10 (σ 12 0) sz) 12 0 (σ 12 0 + 1)) (tup (tup τ 1 (σ 12 0) none) 2 (σ 12 0) none) (i := σ 12 0) (by rw [s12]; omega), rfs_none s11]
  rw [xup_ne _ _ a3]
  unfold xGs
  split
  case isFalse => rfl
  unfold xE
  split
  case h_1 => rw [if_neg (fun h => a0 ⟨rfl, h⟩), if_neg (fun h => a0 ⟨rfl, h⟩)]
  case h_5 => rw [if_neg (fun h => a1 ⟨rfl, h⟩), if_neg (fun h => a1 ⟨rfl, h⟩)]
  case h_9 =>
    have hi : i ≠ σ 12 0 := fun h => a2 ⟨rfl, h⟩
    rw [s12]
    by_cases hi2 : i < σ 12 0
    · rw [if_pos hi2, if_pos (by omega)]
      unfold tfs
      rw [s9n i hi, s10n i hi, tup_ne _ (by omega), tup_ne _ (fun h => hi h.2), tup_ne _ (fun h => hi h.2)]
      rfl
    · rw [if_neg hi2, if_neg (by omega)]
  case h_10 =>
    have hi : i ≠ σ 12 0 := fun h => a3 ⟨rfl, h⟩
    rw [s12]
    by_cases hi2 : i < σ 12 0
    · rw [if_pos hi2, if_pos (by omega)]
      rfl
    · rw [if_neg hi2, if_neg (by omega)]
  case h_11 =>
    have hc : (i / 8 < σ 12 0 ∧ i % 8 < σ 11 (i / 8)) ↔ (i / 8 < σ 12 0 + 1 ∧ i % 8 < σ 11 (i / 8)) := by
      refine ⟨fun h => ⟨by omega, h.2⟩, fun h => ⟨?_, h.2⟩⟩
      by_cases hq : i / 8 = σ 12 0
      · rw [hq, z11] at h; omega
      · omega
    rw [s12]
    show (if i / 8 < σ 12 0 ∧ i % 8 < σ 11 (i / 8) then _ else none) = (if i / 8 < σ 12 0 + 1 ∧ i % 8 < σ 11 (i / 8) then _ else none)
    by_cases hh : i / 8 < σ 12 0 ∧ i % 8 < σ 11 (i / 8)
    · rw [if_pos hh, if_pos (hc.mp hh)]
      rfl
    · rw [if_neg hh, if_neg (fun h => hh (hc.mpr h))]
  all_goals rfl
theorem xf_persecution {g a f t : Nat} : xup (xup (xup (xGs G0 D xa σ τ) 12 (σ 7 0) (.inr (0, [.int (nI g), .int (nI a), .int (nI f), .int (nI t)]))) 2 0 (rfs (D.2 1) 20 (va_up (fun j => if j < σ 7 0 then some (xa 12 j) else none) (σ 7 0) (some (xa 12 (σ 7 0)))))) 0 0 (.inr (4, (xfs xa σ).set 3 (.int (nI (σ 7 0 + 1))))) = xGs G0 D xa (sup (sup (sup (sup (sup σ 6 (4 * σ 7 0) g) 6 (4 * σ 7 0 + 1) a) 6 (4 * σ 7 0 + 2) f) 6 (4 * σ 7 0 + 3) t) 7 0 (σ 7 0 + 1)) τ := by
  have s7 : sup (sup (sup (sup (sup σ 6 (4 * σ 7 0) g) 6 (4 * σ 7 0 + 1) a) 6 (4 * σ 7 0 + 2) f) 6 (4 * σ 7 0 + 3) t) 7 0 (σ 7 0 + 1) 7 0 = σ 7 0 + 1 := sup_self _ _ _ _
  have s6 : ∀ i, i ≠ 4 * σ 7 0 → i ≠ 4 * σ 7 0 + 1 → i ≠ 4 * σ 7 0 + 2 → i ≠ 4 * σ 7 0 + 3 → sup (sup (sup (sup (sup σ 6 (4 * σ 7 0) g) 6 (4 * σ 7 0 + 1) a) 6 (4 * σ 7 0 + 2) f) 6 (4 * σ 7 0 + 3) t) 7 0 (σ 7 0 + 1) 6 i = σ 6 i := fun i h0 h1 h2 h3 => by
    rw [sup_ne _ (by omega), sup_ne _ (by omega), sup_ne _ (by omega), sup_ne _ (by omega), sup_ne _ (by omega)]
  have e0 : sup (sup (sup (sup (sup σ 6 (4 * σ 7 0) g) 6 (4 * σ 7 0 + 1) a) 6 (4 * σ 7 0 + 2) f) 6 (4 * σ 7 0 + 3) t) 7 0 (σ 7 0 + 1) 6 (4 * σ 7 0) = g := by
    rw [sup_ne _ (by omega), sup_ne _ (by omega), sup_ne _ (by omega), sup_ne _ (by omega), sup_self]
  have e1 : sup (sup (sup (sup (sup σ 6 (4 * σ 7 0) g) 6 (4 * σ 7 0 + 1) a) 6 (4 * σ 7 0 + 2) f) 6 (4 * σ 7 0 + 3) t) 7 0 (σ 7 0 + 1) 6 (4 * σ 7 0 + 1) = a := by
    rw [sup_ne _ (by omega), sup_ne _ (by omega), sup_ne _ (by omega), sup_self]
  have e2 : sup (sup (sup (sup (sup σ 6 (4 * σ 7 0) g) 6 (4 * σ 7 0 + 1) a) 6 (4 * σ 7 0 + 2) f) 6 (4 * σ 7 0 + 3) t) 7 0 (σ 7 0 + 1) 6 (4 * σ 7 0 + 2) = f := by
    rw [sup_ne _ (by omega), sup_ne _ (by omega), sup_self]
  have e3 : sup (sup (sup (sup (sup σ 6 (4 * σ 7 0) g) 6 (4 * σ 7 0 + 1) a) 6 (4 * σ 7 0 + 2) f) 6 (4 * σ 7 0 + 3) t) 7 0 (σ 7 0 + 1) 6 (4 * σ 7 0 + 3) = t := by
    rw [sup_ne _ (by omega), sup_self]
  funext k i
  by_cases a0 : k = 0 ∧ i = 0
  · obtain ⟨rfl, rfl⟩ := a0
    rw [xup_self]
    rfl
  rw [xup_ne _ _ a0]
  by_cases a1 : k = 2 ∧ i = 0
  · obtain ⟨rfl, rfl⟩ := a1
    rw [xup_self, rfs_up]
    rfl
  rw [xup_ne _ _ a1]
  generalize hS : sup (sup (sup (sup (sup σ 6 (4 * σ 7 0) g) 6 (4 * σ 7 0 + 1) a) 6 (4 * σ 7 0 + 2) f) 6 (4 * σ 7 0 + 3) t) 7 0 (σ 7 0 + 1) = S at s7 s6 e0 e1 e2 e3 ⊢
  by_cases a2 : k = 12 ∧ i = σ 7 0
  · obtain ⟨rfl, rfl⟩ := a2
    rw [xup_self, xg_e G0 D xa S τ (i := σ 7 0) (by rw [s7]; omega)]
    unfold efs
    rw [e0, e1, e2, e3]
  rw [xup_ne _ _ a2]
  unfold xGs
  split
  case isFalse => rfl
  unfold xE
  split
  case h_1 => rw [if_neg (fun h => a0 ⟨rfl, h⟩), if_neg (fun h => a0 ⟨rfl, h⟩)]
  case h_3 => rw [if_neg (fun h => a1 ⟨rfl, h⟩), if_neg (fun h => a1 ⟨rfl, h⟩)]
  case h_8 =>
    have hi : i ≠ σ 7 0 := fun h => a2 ⟨rfl, h⟩
    rw [s7]
    by_cases hi2 : i < σ 7 0
    · rw [if_pos hi2, if_pos (by omega)]
      unfold efs
      rw [s6 _ (by omega) (by omega) (by omega) (by omega), s6 _ (by omega) (by omega) (by omega) (by omega), s6 _ (by omega) (by omega) (by omega) (by omega), s6 _ (by omega) (by omega) (by omega) (by omega)]
    · rw [if_neg hi2, if_neg (by omega)]
  all_goals (subst hS; rfl)
theorem xf_station (hg : Gd σ) {T p kd a y : Nat} (hT : T < σ 12 0) (hk : σ 11 T < 8) : xup (xup (xup (xGs G0 D xa σ τ) 15 (8 * T + σ 11 T) (.inr (2, [.int (nI (σ 11 T)), .ref (xa 10 p), .int (nI kd), .int (nI a), .int (nI y), .int (nI 0), .int (nI 0), .null, .null]))) 14 T (rfs (D.2 3) 8 (va_up (fun j => if j < σ 11 T then some (xa 15 (8 * T + j)) else none) (σ 11 T) (some (xa 15 (8 * T + σ 11 T)))))) 13 T (.inr (3, (tfs xa σ τ T).set 3 (.int (nI (σ 11 T + 1))))) = xGs G0 D xa (sup (sup (sup (sup (sup σ 13 (8 * T + σ 11 T) p) 14 (8 * T + σ 11 T) kd) 15 (8 * T + σ 11 T) a) 16 (8 * T + σ 11 T) y) 11 T (σ 11 T + 1)) (tup (tup τ 3 (8 * T + σ 11 T) none) 4 (8 * T + σ 11 T) none) := by
  have z := hg.2.2.2.2.2.2.1 T (σ 11 T) (Nat.le_refl _) hk
  have hs8 := hg.hs8
  generalize hJ : 8 * T + σ 11 T = J at z ⊢
  have e11 : ∀ i, sup (sup (sup (sup (sup σ 13 J p) 14 J kd) 15 J a) 16 J y) 11 T (σ 11 T + 1) 11 i = if i = T then σ 11 T + 1 else σ 11 i := by
    intro i
    by_cases hi : i = T
    · rw [if_pos hi, hi, sup_self]
    · rw [if_neg hi]; repeat (rw [sup_ne _ (by omega)])
  have c13 : ∀ i, sup (sup (sup (sup (sup σ 13 J p) 14 J kd) 15 J a) 16 J y) 11 T (σ 11 T + 1) 13 i = if i = J then p else σ 13 i := by
    intro i
    by_cases hi : i = J
    · rw [if_pos hi, hi]; rw [sup_ne _ (by omega), sup_ne _ (by omega), sup_ne _ (by omega), sup_ne _ (by omega), sup_self]
    · rw [if_neg hi]; repeat (rw [sup_ne _ (by omega)])
  have c14 : ∀ i, sup (sup (sup (sup (sup σ 13 J p) 14 J kd) 15 J a) 16 J y) 11 T (σ 11 T + 1) 14 i = if i = J then kd else σ 14 i := by
    intro i
    by_cases hi : i = J
    · rw [if_pos hi, hi]; rw [sup_ne _ (by omega), sup_ne _ (by omega), sup_ne _ (by omega), sup_self]
    · rw [if_neg hi]; repeat (rw [sup_ne _ (by omega)])
  have c15 : ∀ i, sup (sup (sup (sup (sup σ 13 J p) 14 J kd) 15 J a) 16 J y) 11 T (σ 11 T + 1) 15 i = if i = J then a else σ 15 i := by
    intro i
    by_cases hi : i = J
    · rw [if_pos hi, hi]; rw [sup_ne _ (by omega), sup_ne _ (by omega), sup_self]
    · rw [if_neg hi]; repeat (rw [sup_ne _ (by omega)])
  have c16 : ∀ i, sup (sup (sup (sup (sup σ 13 J p) 14 J kd) 15 J a) 16 J y) 11 T (σ 11 T + 1) 16 i = if i = J then y else σ 16 i := by
    intro i
    by_cases hi : i = J
    · rw [if_pos hi, hi]; rw [sup_ne _ (by omega), sup_self]
    · rw [if_neg hi]; repeat (rw [sup_ne _ (by omega)])
  have rows : ∀ r, r ≠ 11 → r ≠ 13 → r ≠ 14 → r ≠ 15 → r ≠ 16 → sup (sup (sup (sup (sup σ 13 J p) 14 J kd) 15 J a) 16 J y) 11 T (σ 11 T + 1) r = σ r := fun r h1 h2 h3 h4 h5 => by
    rw [sup_row _ _ _ h1, sup_row _ _ _ h5, sup_row _ _ _ h4, sup_row _ _ _ h3, sup_row _ _ _ h2]
  generalize sup (sup (sup (sup (sup σ 13 J p) 14 J kd) 15 J a) 16 J y) 11 T (σ 11 T + 1) = S at e11 c13 c14 c15 c16 rows ⊢
  have r0 := rows 0 (by decide) (by decide) (by decide) (by decide) (by decide)
  have r1 := rows 1 (by decide) (by decide) (by decide) (by decide) (by decide)
  have r2 := rows 2 (by decide) (by decide) (by decide) (by decide) (by decide)
  have r3 := rows 3 (by decide) (by decide) (by decide) (by decide) (by decide)
  have r4 := rows 4 (by decide) (by decide) (by decide) (by decide) (by decide)
  have r5 := rows 5 (by decide) (by decide) (by decide) (by decide) (by decide)
  have r6 := rows 6 (by decide) (by decide) (by decide) (by decide) (by decide)
  have r7 := rows 7 (by decide) (by decide) (by decide) (by decide) (by decide)
  have r8 := rows 8 (by decide) (by decide) (by decide) (by decide) (by decide)
  have r9 := rows 9 (by decide) (by decide) (by decide) (by decide) (by decide)
  have r10 := rows 10 (by decide) (by decide) (by decide) (by decide) (by decide)
  have r12 := rows 12 (by decide) (by decide) (by decide) (by decide) (by decide)
  have r17 := rows 17 (by decide) (by decide) (by decide) (by decide) (by decide)
  have r18 := rows 18 (by decide) (by decide) (by decide) (by decide) (by decide)
  have t0 : tup (tup τ 3 J none) 4 J none 0 = τ 0 := rfl
  have t1 : tup (tup τ 3 J none) 4 J none 1 = τ 1 := rfl
  have t2 : tup (tup τ 3 J none) 4 J none 2 = τ 2 := rfl
  have t3 : ∀ i, tup (tup τ 3 J none) 4 J none 3 i = if i = J then none else τ 3 i := fun i => by
    by_cases hi : i = J
    · rw [if_pos hi, hi, tup_ne _ (by omega), tup_self]
    · rw [if_neg hi, tup_ne _ (by omega), tup_ne _ (by omega)]
  have t4 : ∀ i, tup (tup τ 3 J none) 4 J none 4 i = if i = J then none else τ 4 i := fun i => by
    by_cases hi : i = J
    · rw [if_pos hi, hi, tup_self]
    · rw [if_neg hi, tup_ne _ (by omega), tup_ne _ (by omega)]
  generalize tup (tup τ 3 J none) 4 J none = τ' at t0 t1 t2 t3 t4 ⊢
  funext k i
  by_cases a0 : k = 13 ∧ i = T
  · obtain ⟨rfl, rfl⟩ := a0
    rw [xup_self, xg_t G0 D xa S τ' (by rw [r12]; exact hT)]
    unfold tfs
    rw [e11, if_pos rfl, r9, r10, t1, t2]
    rfl
  rw [xup_ne _ _ a0]
  by_cases a1 : k = 14 ∧ i = T
  · obtain ⟨rfl, rfl⟩ := a1
    rw [xup_self, xg_sa G0 D xa S τ' (by rw [r12]; exact hT), ← hJ, rfs_up (f := fun j => xa 15 (8 * i + j)), e11, if_pos rfl]
  rw [xup_ne _ _ a1]
  by_cases a2 : k = 15 ∧ i = J
  · obtain ⟨rfl, rfl⟩ := a2
    have hd : i / 8 = T := by omega
    have hm : i % 8 = σ 11 T := by omega
    rw [xup_self, xg_s G0 D xa S τ' ⟨by rw [r12, hd]; exact hT, by rw [hd, hm, e11, if_pos rfl]; omega⟩]
    unfold sfs
    rw [c13, c14, c15, c16, r17, r18, t3, t4, if_pos rfl, if_pos rfl, if_pos rfl, if_pos rfl, if_pos rfl, if_pos rfl, hm, z.1, z.2]
    rfl
  rw [xup_ne _ _ a2]
  unfold xGs
  split
  case isFalse => rfl
  unfold xE
  split
  case h_9 =>
    have hi : i ≠ T := fun h => a0 ⟨rfl, h⟩
    unfold tfs
    rw [r12, r9, r10, t1, t2, e11, if_neg hi]
  case h_10 =>
    have hi : i ≠ T := fun h => a1 ⟨rfl, h⟩
    rw [r12, e11, if_neg hi]
  case h_11 =>
    have hi : i ≠ J := fun h => a2 ⟨rfl, h⟩
    have hc : (i / 8 < σ 12 0 ∧ i % 8 < σ 11 (i / 8)) ↔ (i / 8 < σ 12 0 ∧ i % 8 < S 11 (i / 8)) := by
      rw [e11]
      by_cases hq : i / 8 = T
      · rw [if_pos hq, hq]
        exact ⟨fun h => ⟨h.1, by omega⟩, fun h => ⟨h.1, by omega⟩⟩
      · rw [if_neg hq]
    rw [r12]
    by_cases hh : i / 8 < σ 12 0 ∧ i % 8 < σ 11 (i / 8)
    · rw [if_pos hh, if_pos (hc.mp hh)]
      unfold sfs
      rw [c13, c14, c15, c16, r17, r18, t3, t4, if_neg hi, if_neg hi, if_neg hi, if_neg hi, if_neg hi, if_neg hi]
    · rw [if_neg hh, if_neg (fun h => hh (hc.mpr h))]
  all_goals (first | rfl | (simp only [xfs, pfs, efs, r0, r1, r2, r3, r4, r5, r6, r7, r8, r12, t0]))
end XFA

set_option maxHeartbeats 4000000 in
set_option maxRecDepth 100000 in
theorem c_X0_init (l : Launch) (D : xD) (sa : Nat → Nat) (xa : xA) (G : xG) (n g a f t : Nat) (hG0 : G 12 n = some (.inr (0, [.int (nI 0), .int (nI 0), .int (nI 0), .int (nI 0)]))) : xCv l yX0_init wsX0_init ({ frames := 10, cells := 0, slots := 0, locals := 200 } : Room) D sa xa G [.ref (xa 12 n), .int (nI g), .int (nI a), .int (nI f), .int (nI t)] (fun u => u = (xa, xup (G) 12 n (.inr (0, [.int (nI (g)), .int (nI (a)), .int (nI (f)), .int (nI (t))])))) 0 0 := by
  intro sz
  refine Met.ofW (cc := cX0_init) (maxL := 5) (ret := none) (by decide +kernel) rfl ?_
  intro p e s m args below meth c s₁ B hml hv
  obtain ⟨rfl, hsz, hv2⟩ := hv
  subst hsz
  have hx := B.exec
  have hb := B.bytes
  have hr := B.returns
  have hts := atoms_spec (ws := wsX0_init) B.pre
  have hown : s.vm.findClass RX0 = some m.cls := findClass_of_methodNamed B.named
  have hlocks := B.notSynchronized
  have hin0 : ∀ w ∈ wsX00, w ∈ wsX0_init := by decide +kernel
  have hW := xW.start (s := s) ⟨rfl, hv2⟩
  clear hv2
  generalize xAw xa (G) s.heap.size = A at hW ⊢
  have hl := lv_entry ([.ref (xa 12 n), .int (nI (g)), .int (nI (a)), .int (nI (f)), .int (nI (t))]) (n := 5) (Nat.le_of_ble_eq_true rfl)
  rw [lg_entry_eq]
  generalize (lg_sl ([.ref (xa 12 n), .int (nI (g)), .int (nI (a)), .int (nI (f)), .int (nI (t))]) ++ List.replicate (5 - (lg_sl ([.ref (xa 12 n), .int (nI (g)), .int (nI (a)), .int (nI (f)), .int (nI (t))])).length) Slot.unset).toArray = ls at hl ⊢
  have hl : lv_has ls 5 [(0, .ref (xa 12 n)), (1, .int (nI (g))), (2, .int (nI (a))), (3, .int (nI (f))), (4, .int (nI (t)))] := hl
  have hnm : meth.name = "<init>" := (name_of_methodNamed B.named B.method).1
  refine lv_aload_n hx hb dX0_init_0 rfl (lv_at hl 0 rfl) ?_
  refine W.objInit hx hb hown (hts (.methodLink RX0 1 objectInit) (by decide +kernel)) (hts (.instanceMethod objectInit) (by decide +kernel)) (hts (.code objectInit ⟨#[0xb1]⟩ 1 none) (by decide +kernel)) rfl (hl.1.trans hml.symm) rfl dX0_init_1 (Nat.le_of_ble_eq_true rfl) (Nat.le_of_ble_eq_true rfl) ?_
  show W _ _ _ _ _ _ _ _ _ _ _ _ _ _ _ (F0 _ 4 ls [])
  refine lv_aload_n hx hb dX0_init_4 rfl (lv_at hl 0 rfl) ?_
  refine lv_iload_n hx hb dX0_init_5 rfl (lv_at hl 1 rfl) ?_
  refine x_putF (ty := .int) (v := .int (nI (g))) hx hb hts hin0 tyX0 tyX0_ok nmX0 hown hW 12 (n) (fs := [.int (nI (0)), .int (nI (0)), .int (nI (0)), .int (nI (0))]) (hG0) rfl 0 (by decide) (hts (.fieldLink RX0 7 RX0 "group" "I") (by decide +kernel)) rfl rfl hnm (by decide +kernel) rfl rfl (Nat.le_of_ble_eq_true rfl) dX0_init_6 fun H locs hW => ?_
  have hW : xW D sa A s xa (xup (G) 12 n (.inr (0, [.int (nI (g)), .int (nI (0)), .int (nI (0)), .int (nI (0))]))) H locs := hW
  refine lv_aload_n hx hb dX0_init_9 rfl (lv_at hl 0 rfl) ?_
  refine lv_iload_n hx hb dX0_init_10 rfl (lv_at hl 2 rfl) ?_
  refine x_putF (ty := .int) (v := .int (nI (a))) hx hb hts hin0 tyX0 tyX0_ok nmX0 hown hW 12 (n) (fs := [.int (nI (g)), .int (nI (0)), .int (nI (0)), .int (nI (0))]) ((xup_self _ _ _ _)) rfl 1 (by decide) (hts (.fieldLink RX0 13 RX0 "land" "I") (by decide +kernel)) rfl rfl hnm (by decide +kernel) rfl rfl (Nat.le_of_ble_eq_true rfl) dX0_init_11 fun H locs hW => ?_
  have hW : xW D sa A s xa (xup (G) 12 n (.inr (0, [.int (nI (g)), .int (nI (a)), .int (nI (0)), .int (nI (0))]))) H locs := hW.eqG (xup_sq _ _ _ _ _).symm
  refine lv_aload_n hx hb dX0_init_14 rfl (lv_at hl 0 rfl) ?_
  refine lv_iload_n hx hb dX0_init_15 rfl (lv_at hl 3 rfl) ?_
  refine x_putF (ty := .int) (v := .int (nI (f))) hx hb hts hin0 tyX0 tyX0_ok nmX0 hown hW 12 (n) (fs := [.int (nI (g)), .int (nI (a)), .int (nI (0)), .int (nI (0))]) ((xup_self _ _ _ _)) rfl 2 (by decide) (hts (.fieldLink RX0 16 RX0 "from" "I") (by decide +kernel)) rfl rfl hnm (by decide +kernel) rfl rfl (Nat.le_of_ble_eq_true rfl) dX0_init_16 fun H locs hW => ?_
  have hW : xW D sa A s xa (xup (G) 12 n (.inr (0, [.int (nI (g)), .int (nI (a)), .int (nI (f)), .int (nI (0))]))) H locs := hW.eqG (xup_sq _ _ _ _ _).symm
  refine lv_aload_n hx hb dX0_init_19 rfl (lv_at hl 0 rfl) ?_
  refine lv_iload hx hb dX0_init_20 (lv_at hl 4 rfl) ?_
  refine x_putF (ty := .int) (v := .int (nI (t))) hx hb hts hin0 tyX0 tyX0_ok nmX0 hown hW 12 (n) (fs := [.int (nI (g)), .int (nI (a)), .int (nI (f)), .int (nI (0))]) ((xup_self _ _ _ _)) rfl 3 (by decide) (hts (.fieldLink RX0 19 RX0 "to" "I") (by decide +kernel)) rfl rfl hnm (by decide +kernel) rfl rfl (Nat.le_of_ble_eq_true rfl) dX0_init_22 fun H locs hW => ?_
  have hW : xW D sa A s xa (xup (G) 12 n (.inr (0, [.int (nI (g)), .int (nI (a)), .int (nI (f)), .int (nI (t))]))) H locs := hW.eqG (xup_sq _ _ _ _ _).symm
  exact xe_v hx hb hr hlocks hW rfl (Nat.le_of_ble_eq_true rfl) (Nat.le_of_ble_eq_true rfl) dX0_init_25

set_option maxHeartbeats 4000000 in
set_option maxRecDepth 100000 in
theorem c_X1_init (l : Launch) (D : xD) (sa : Nat → Nat) (xa : xA) (G : xG) (n g : Nat) (hG0 : G 10 n = some (.inr (1, [.int (nI 0), .int (nI 0), .int (nI 0), .null, .int (nI 0), .null]))) (hA0 : G 11 n = none) : xCv l yX1_init wsX1_init ({ frames := 10, cells := 1, slots := 11, locals := 200 } : Room) D sa xa G [.ref (xa 10 n), .int (nI n), .int (nI g)] (fun u => ∃ xb1 : xA, (∀ k_ i_ : Nat, ¬ (k_ = 11 ∧ i_ = n) → xb1 k_ i_ = xa k_ i_) ∧ u = (xb1, xup (xup (G) 11 n (rfs (D.2 0) 11 (fun _ => none))) 10 n (.inr (1, [.int (nI (n)), .int (nI (g)), .int (nI (0)), .ref (xb1 11 n), .int (nI (0)), .null])))) 1 11 := by
  intro sz
  refine Met.ofW (cc := cX1_init) (maxL := 3) (ret := none) (by decide +kernel) rfl ?_
  intro p e s m args below meth c s₁ B hml hv
  obtain ⟨rfl, hsz, hv2⟩ := hv
  subst hsz
  have hx := B.exec
  have hb := B.bytes
  have hr := B.returns
  have hts := atoms_spec (ws := wsX1_init) B.pre
  have hown : s.vm.findClass RX1 = some m.cls := findClass_of_methodNamed B.named
  have hlocks := B.notSynchronized
  have hin1 : ∀ w ∈ wsX10, w ∈ wsX1_init := by decide +kernel
  have hW := xW.start (s := s) ⟨rfl, hv2⟩
  clear hv2
  generalize xAw xa (G) s.heap.size = A at hW ⊢
  have hl := lv_entry ([.ref (xa 10 n), .int (nI (n)), .int (nI (g))]) (n := 3) (Nat.le_of_ble_eq_true rfl)
  rw [lg_entry_eq]
  generalize (lg_sl ([.ref (xa 10 n), .int (nI (n)), .int (nI (g))]) ++ List.replicate (3 - (lg_sl ([.ref (xa 10 n), .int (nI (n)), .int (nI (g))])).length) Slot.unset).toArray = ls at hl ⊢
  have hl : lv_has ls 3 [(0, .ref (xa 10 n)), (1, .int (nI (n))), (2, .int (nI (g)))] := hl
  have hnm : meth.name = "<init>" := (name_of_methodNamed B.named B.method).1
  refine lv_aload_n hx hb dX1_init_0 rfl (lv_at hl 0 rfl) ?_
  refine W.objInit hx hb hown (hts (.methodLink RX1 3 objectInit) (by decide +kernel)) (hts (.instanceMethod objectInit) (by decide +kernel)) (hts (.code objectInit ⟨#[0xb1]⟩ 1 none) (by decide +kernel)) rfl (hl.1.trans hml.symm) rfl dX1_init_1 (Nat.le_of_ble_eq_true rfl) (Nat.le_of_ble_eq_true rfl) ?_
  show W _ _ _ _ _ _ _ _ _ _ _ _ _ _ _ (F0 _ 4 ls [])
  refine lv_aload_n hx hb dX1_init_4 rfl (lv_at hl 0 rfl) ?_
  refine lv_bipush (v := nI (11)) hx hb dX1_init_5 (by decide +kernel) ?_
  refine x_newq (N' := 11) hx hb hown (hts (.classLink RX1 9 RX1) (by decide +kernel)) (hW.AO (by decide)) hW 11 n 0 rfl (hA0) (by decide +kernel) (by decide +kernel) (by omega) (Nat.le_of_ble_eq_true rfl) (Nat.le_of_ble_eq_true rfl) dX1_init_7 fun xb1 H hxb1 hW => ?_
  refine W_stk (st' := [.ref (xb1 11 n), .ref (xb1 10 n)]) (by rw [hxb1 10 n (by omega)]) ?_
  have hl : lv_has ls 3 [(0, .ref (xb1 10 n)), (1, .int (nI (n))), (2, .int (nI (g)))] := by rw [hxb1 10 n (by omega)]; exact hl
  refine x_putF (ty := .array (.object "Restitutory$Person")) (v := .ref (xb1 11 n)) hx hb hts hin1 tyX1 tyX1_ok nmX1 hown hW 10 (n) (fs := [.int (nI (0)), .int (nI (0)), .int (nI (0)), .null, .int (nI (0)), .null]) ((xup_ne _ _ (by omega)).trans (hG0)) rfl 3 (by decide) (hts (.fieldLink RX1 11 RX1 "heirs" "[LRestitutory$Person;") (by decide +kernel)) rfl rfl hnm (by decide +kernel) rfl rfl (Nat.le_of_ble_eq_true rfl) dX1_init_10 fun H locs hW => ?_
  have hW : xW D sa A s xb1 (xup (xup (G) 11 n (rfs (D.2 0) 11 (fun _ => none))) 10 n (.inr (1, [.int (nI (0)), .int (nI (0)), .int (nI (0)), .ref (xb1 11 n), .int (nI (0)), .null]))) H locs := hW
  refine lv_aload_n hx hb dX1_init_13 rfl (lv_at hl 0 rfl) ?_
  refine lv_iload_n hx hb dX1_init_14 rfl (lv_at hl 1 rfl) ?_
  refine x_putF (ty := .int) (v := .int (nI (n))) hx hb hts hin1 tyX1 tyX1_ok nmX1 hown hW 10 (n) (fs := [.int (nI (0)), .int (nI (0)), .int (nI (0)), .ref (xb1 11 n), .int (nI (0)), .null]) ((xup_self _ _ _ _)) rfl 0 (by decide) (hts (.fieldLink RX1 15 RX1 "number" "I") (by decide +kernel)) rfl rfl hnm (by decide +kernel) rfl rfl (Nat.le_of_ble_eq_true rfl) dX1_init_15 fun H locs hW => ?_
  have hW : xW D sa A s xb1 (xup (xup (G) 11 n (rfs (D.2 0) 11 (fun _ => none))) 10 n (.inr (1, [.int (nI (n)), .int (nI (0)), .int (nI (0)), .ref (xb1 11 n), .int (nI (0)), .null]))) H locs := hW.eqG (xup_sq _ _ _ _ _).symm
  refine lv_aload_n hx hb dX1_init_18 rfl (lv_at hl 0 rfl) ?_
  refine lv_iload_n hx hb dX1_init_19 rfl (lv_at hl 2 rfl) ?_
  refine x_putF (ty := .int) (v := .int (nI (g))) hx hb hts hin1 tyX1 tyX1_ok nmX1 hown hW 10 (n) (fs := [.int (nI (n)), .int (nI (0)), .int (nI (0)), .ref (xb1 11 n), .int (nI (0)), .null]) ((xup_self _ _ _ _)) rfl 1 (by decide) (hts (.fieldLink RX1 19 RX1 "group" "I") (by decide +kernel)) rfl rfl hnm (by decide +kernel) rfl rfl (Nat.le_of_ble_eq_true rfl) dX1_init_20 fun H locs hW => ?_
  have hW : xW D sa A s xb1 (xup (xup (G) 11 n (rfs (D.2 0) 11 (fun _ => none))) 10 n (.inr (1, [.int (nI (n)), .int (nI (g)), .int (nI (0)), .ref (xb1 11 n), .int (nI (0)), .null]))) H locs := hW.eqG (xup_sq _ _ _ _ _).symm
  exact xe_v hx hb hr hlocks hW ⟨xb1, hxb1, rfl⟩ (Nat.le_of_ble_eq_true rfl) (Nat.le_of_ble_eq_true rfl) dX1_init_23

set_option maxHeartbeats 4000000 in
set_option maxRecDepth 100000 in
theorem c_X2_init (l : Launch) (D : xD) (sa : Nat → Nat) (xa : xA) (G : xG) (J n q kd a y : Nat) (hG0 : G 15 J = some (.inr (2, [.int (nI 0), .null, .int (nI 0), .int (nI 0), .int (nI 0), .int (nI 0), .int (nI 0), .null, .null]))) : xCv l yX2_init wsX2_init ({ frames := 10, cells := 0, slots := 0, locals := 200 } : Room) D sa xa G [.ref (xa 15 J), .int (nI n), .ref (xa 10 q), .int (nI kd), .int (nI a), .int (nI y)] (fun u => u = (xa, xup (G) 15 J (.inr (2, [.int (nI (n)), .ref (xa 10 q), .int (nI (kd)), .int (nI (a)), .int (nI (y)), .int (nI (0)), .int (nI (0)), .null, .null])))) 0 0 := by
  intro sz
  refine Met.ofW (cc := cX2_init) (maxL := 6) (ret := none) (by decide +kernel) rfl ?_
  intro p e s m args below meth c s₁ B hml hv
  obtain ⟨rfl, hsz, hv2⟩ := hv
  subst hsz
  have hx := B.exec
  have hb := B.bytes
  have hr := B.returns
  have hts := atoms_spec (ws := wsX2_init) B.pre
  have hown : s.vm.findClass RX2 = some m.cls := findClass_of_methodNamed B.named
  have hlocks := B.notSynchronized
  have hin2 : ∀ w ∈ wsX20, w ∈ wsX2_init := by decide +kernel
  have hW := xW.start (s := s) ⟨rfl, hv2⟩
  clear hv2
  generalize xAw xa (G) s.heap.size = A at hW ⊢
  have hl := lv_entry ([.ref (xa 15 J), .int (nI (n)), .ref (xa 10 q), .int (nI (kd)), .int (nI (a)), .int (nI (y))]) (n := 6) (Nat.le_of_ble_eq_true rfl)
  rw [lg_entry_eq]
  generalize (lg_sl ([.ref (xa 15 J), .int (nI (n)), .ref (xa 10 q), .int (nI (kd)), .int (nI (a)), .int (nI (y))]) ++ List.replicate (6 - (lg_sl ([.ref (xa 15 J), .int (nI (n)), .ref (xa 10 q), .int (nI (kd)), .int (nI (a)), .int (nI (y))])).length) Slot.unset).toArray = ls at hl ⊢
  have hl : lv_has ls 6 [(0, .ref (xa 15 J)), (1, .int (nI (n))), (2, .ref (xa 10 q)), (3, .int (nI (kd))), (4, .int (nI (a))), (5, .int (nI (y)))] := hl
  have hnm : meth.name = "<init>" := (name_of_methodNamed B.named B.method).1
  refine lv_aload_n hx hb dX2_init_0 rfl (lv_at hl 0 rfl) ?_
  refine W.objInit hx hb hown (hts (.methodLink RX2 1 objectInit) (by decide +kernel)) (hts (.instanceMethod objectInit) (by decide +kernel)) (hts (.code objectInit ⟨#[0xb1]⟩ 1 none) (by decide +kernel)) rfl (hl.1.trans hml.symm) rfl dX2_init_1 (Nat.le_of_ble_eq_true rfl) (Nat.le_of_ble_eq_true rfl) ?_
  show W _ _ _ _ _ _ _ _ _ _ _ _ _ _ _ (F0 _ 4 ls [])
  refine lv_aload_n hx hb dX2_init_4 rfl (lv_at hl 0 rfl) ?_
  refine lv_iload_n hx hb dX2_init_5 rfl (lv_at hl 1 rfl) ?_
  refine x_putF (ty := .int) (v := .int (nI (n))) hx hb hts hin2 tyX2 tyX2_ok nmX2 hown hW 15 (J) (fs := [.int (nI (0)), .null, .int (nI (0)), .int (nI (0)), .int (nI (0)), .int (nI (0)), .int (nI (0)), .null, .null]) (hG0) rfl 0 (by decide) (hts (.fieldLink RX2 7 RX2 "number" "I") (by decide +kernel)) rfl rfl hnm (by decide +kernel) rfl rfl (Nat.le_of_ble_eq_true rfl) dX2_init_6 fun H locs hW => ?_
  have hW : xW D sa A s xa (xup (G) 15 J (.inr (2, [.int (nI (n)), .null, .int (nI (0)), .int (nI (0)), .int (nI (0)), .int (nI (0)), .int (nI (0)), .null, .null]))) H locs := hW
  refine lv_aload_n hx hb dX2_init_9 rfl (lv_at hl 0 rfl) ?_
  refine lv_aload_n hx hb dX2_init_10 rfl (lv_at hl 2 rfl) ?_
  refine x_putF (ty := .object "Restitutory$Person") (v := .ref (xa 10 q)) hx hb hts hin2 tyX2 tyX2_ok nmX2 hown hW 15 (J) (fs := [.int (nI (n)), .null, .int (nI (0)), .int (nI (0)), .int (nI (0)), .int (nI (0)), .int (nI (0)), .null, .null]) ((xup_self _ _ _ _)) rfl 1 (by decide) (hts (.fieldLink RX2 13 RX2 "party" "LRestitutory$Person;") (by decide +kernel)) rfl rfl hnm (by decide +kernel) rfl rfl (Nat.le_of_ble_eq_true rfl) dX2_init_11 fun H locs hW => ?_
  have hW : xW D sa A s xa (xup (G) 15 J (.inr (2, [.int (nI (n)), .ref (xa 10 q), .int (nI (0)), .int (nI (0)), .int (nI (0)), .int (nI (0)), .int (nI (0)), .null, .null]))) H locs := hW.eqG (xup_sq _ _ _ _ _).symm
  refine lv_aload_n hx hb dX2_init_14 rfl (lv_at hl 0 rfl) ?_
  refine lv_iload_n hx hb dX2_init_15 rfl (lv_at hl 3 rfl) ?_
  refine x_putF (ty := .int) (v := .int (nI (kd))) hx hb hts hin2 tyX2 tyX2_ok nmX2 hown hW 15 (J) (fs := [.int (nI (n)), .ref (xa 10 q), .int (nI (0)), .int (nI (0)), .int (nI (0)), .int (nI (0)), .int (nI (0)), .null, .null]) ((xup_self _ _ _ _)) rfl 2 (by decide) (hts (.fieldLink RX2 17 RX2 "kind" "I") (by decide +kernel)) rfl rfl hnm (by decide +kernel) rfl rfl (Nat.le_of_ble_eq_true rfl) dX2_init_16 fun H locs hW => ?_
  have hW : xW D sa A s xa (xup (G) 15 J (.inr (2, [.int (nI (n)), .ref (xa 10 q), .int (nI (kd)), .int (nI (0)), .int (nI (0)), .int (nI (0)), .int (nI (0)), .null, .null]))) H locs := hW.eqG (xup_sq _ _ _ _ _).symm
  refine lv_aload_n hx hb dX2_init_19 rfl (lv_at hl 0 rfl) ?_
  refine lv_iload hx hb dX2_init_20 (lv_at hl 4 rfl) ?_
  refine x_putF (ty := .int) (v := .int (nI (a))) hx hb hts hin2 tyX2 tyX2_ok nmX2 hown hW 15 (J) (fs := [.int (nI (n)), .ref (xa 10 q), .int (nI (kd)), .int (nI (0)), .int (nI (0)), .int (nI (0)), .int (nI (0)), .null, .null]) ((xup_self _ _ _ _)) rfl 3 (by decide) (hts (.fieldLink RX2 20 RX2 "land" "I") (by decide +kernel)) rfl rfl hnm (by decide +kernel) rfl rfl (Nat.le_of_ble_eq_true rfl) dX2_init_22 fun H locs hW => ?_
  have hW : xW D sa A s xa (xup (G) 15 J (.inr (2, [.int (nI (n)), .ref (xa 10 q), .int (nI (kd)), .int (nI (a)), .int (nI (0)), .int (nI (0)), .int (nI (0)), .null, .null]))) H locs := hW.eqG (xup_sq _ _ _ _ _).symm
  refine lv_aload_n hx hb dX2_init_25 rfl (lv_at hl 0 rfl) ?_
  refine lv_iload hx hb dX2_init_26 (lv_at hl 5 rfl) ?_
  refine x_putF (ty := .int) (v := .int (nI (y))) hx hb hts hin2 tyX2 tyX2_ok nmX2 hown hW 15 (J) (fs := [.int (nI (n)), .ref (xa 10 q), .int (nI (kd)), .int (nI (a)), .int (nI (0)), .int (nI (0)), .int (nI (0)), .null, .null]) ((xup_self _ _ _ _)) rfl 4 (by decide) (hts (.fieldLink RX2 23 RX2 "year" "I") (by decide +kernel)) rfl rfl hnm (by decide +kernel) rfl rfl (Nat.le_of_ble_eq_true rfl) dX2_init_28 fun H locs hW => ?_
  have hW : xW D sa A s xa (xup (G) 15 J (.inr (2, [.int (nI (n)), .ref (xa 10 q), .int (nI (kd)), .int (nI (a)), .int (nI (y)), .int (nI (0)), .int (nI (0)), .null, .null]))) H locs := hW.eqG (xup_sq _ _ _ _ _).symm
  exact xe_v hx hb hr hlocks hW rfl (Nat.le_of_ble_eq_true rfl) (Nat.le_of_ble_eq_true rfl) dX2_init_31

set_option maxHeartbeats 4000000 in
set_option maxRecDepth 100000 in
theorem c_X3_init (l : Launch) (D : xD) (sa : Nat → Nat) (xa : xA) (G : xG) (n mk z : Nat) (hG0 : G 13 n = some (.inr (3, [.int (nI 0), .int (nI 0), .null, .int (nI 0), .null, .null]))) (hA0 : G 14 n = none) : xCv l yX3_init wsX3_init ({ frames := 10, cells := 1, slots := 8, locals := 200 } : Room) D sa xa G [.ref (xa 13 n), .int (nI mk), .int (nI z)] (fun u => ∃ xb1 : xA, (∀ k_ i_ : Nat, ¬ (k_ = 14 ∧ i_ = n) → xb1 k_ i_ = xa k_ i_) ∧ u = (xb1, xup (xup (G) 14 n (rfs (D.2 3) 8 (fun _ => none))) 13 n (.inr (3, [.int (nI (mk)), .int (nI (z)), .ref (xb1 14 n), .int (nI (0)), .null, .null])))) 1 8 := by
  intro sz
  refine Met.ofW (cc := cX3_init) (maxL := 3) (ret := none) (by decide +kernel) rfl ?_
  intro p e s m args below meth c s₁ B hml hv
  obtain ⟨rfl, hsz, hv2⟩ := hv
  subst hsz
  have hx := B.exec
  have hb := B.bytes
  have hr := B.returns
  have hts := atoms_spec (ws := wsX3_init) B.pre
  have hown : s.vm.findClass RX3 = some m.cls := findClass_of_methodNamed B.named
  have hlocks := B.notSynchronized
  have hin3 : ∀ w ∈ wsX30, w ∈ wsX3_init := by decide +kernel
  have hW := xW.start (s := s) ⟨rfl, hv2⟩
  clear hv2
  generalize xAw xa (G) s.heap.size = A at hW ⊢
  have hl := lv_entry ([.ref (xa 13 n), .int (nI (mk)), .int (nI (z))]) (n := 3) (Nat.le_of_ble_eq_true rfl)
  rw [lg_entry_eq]
  generalize (lg_sl ([.ref (xa 13 n), .int (nI (mk)), .int (nI (z))]) ++ List.replicate (3 - (lg_sl ([.ref (xa 13 n), .int (nI (mk)), .int (nI (z))])).length) Slot.unset).toArray = ls at hl ⊢
  have hl : lv_has ls 3 [(0, .ref (xa 13 n)), (1, .int (nI (mk))), (2, .int (nI (z)))] := hl
  have hnm : meth.name = "<init>" := (name_of_methodNamed B.named B.method).1
  refine lv_aload_n hx hb dX3_init_0 rfl (lv_at hl 0 rfl) ?_
  refine W.objInit hx hb hown (hts (.methodLink RX3 3 objectInit) (by decide +kernel)) (hts (.instanceMethod objectInit) (by decide +kernel)) (hts (.code objectInit ⟨#[0xb1]⟩ 1 none) (by decide +kernel)) rfl (hl.1.trans hml.symm) rfl dX3_init_1 (Nat.le_of_ble_eq_true rfl) (Nat.le_of_ble_eq_true rfl) ?_
  show W _ _ _ _ _ _ _ _ _ _ _ _ _ _ _ (F0 _ 4 ls [])
  refine lv_aload_n hx hb dX3_init_4 rfl (lv_at hl 0 rfl) ?_
  refine lv_bipush (v := nI (8)) hx hb dX3_init_5 (by decide +kernel) ?_
  refine x_newq (N' := 8) hx hb hown (hts (.classLink RX3 9 RX2) (by decide +kernel)) (hW.AO (by decide)) hW 14 n 3 rfl (hA0) (by decide +kernel) (by decide +kernel) (by omega) (Nat.le_of_ble_eq_true rfl) (Nat.le_of_ble_eq_true rfl) dX3_init_7 fun xb1 H hxb1 hW => ?_
  refine W_stk (st' := [.ref (xb1 14 n), .ref (xb1 13 n)]) (by rw [hxb1 13 n (by omega)]) ?_
  have hl : lv_has ls 3 [(0, .ref (xb1 13 n)), (1, .int (nI (mk))), (2, .int (nI (z)))] := by rw [hxb1 13 n (by omega)]; exact hl
  refine x_putF (ty := .array (.object "Restitutory$Station")) (v := .ref (xb1 14 n)) hx hb hts hin3 tyX3 tyX3_ok nmX3 hown hW 13 (n) (fs := [.int (nI (0)), .int (nI (0)), .null, .int (nI (0)), .null, .null]) ((xup_ne _ _ (by omega)).trans (hG0)) rfl 2 (by decide) (hts (.fieldLink RX3 11 RX3 "stations" "[LRestitutory$Station;") (by decide +kernel)) rfl rfl hnm (by decide +kernel) rfl rfl (Nat.le_of_ble_eq_true rfl) dX3_init_10 fun H locs hW => ?_
  have hW : xW D sa A s xb1 (xup (xup (G) 14 n (rfs (D.2 3) 8 (fun _ => none))) 13 n (.inr (3, [.int (nI (0)), .int (nI (0)), .ref (xb1 14 n), .int (nI (0)), .null, .null]))) H locs := hW
  refine lv_aload_n hx hb dX3_init_13 rfl (lv_at hl 0 rfl) ?_
  refine lv_iload_n hx hb dX3_init_14 rfl (lv_at hl 1 rfl) ?_
  refine x_put (ty := .int) (v := .int (nI (mk))) hx hb hts hin3 tyX3 tyX3_ok nmX3 hown hW 13 (n) (fs := [.int (nI (0)), .int (nI (0)), .ref (xb1 14 n), .int (nI (0)), .null, .null]) ((xup_self _ _ _ _)) rfl 0 (by decide) (hts (.fieldLink RX3 17 "Restitutory$Thing" "marks" "I") (by decide +kernel)) rfl rfl (by decide +kernel) rfl rfl (Nat.le_of_ble_eq_true rfl) dX3_init_15 fun H locs hW => ?_
  have hW : xW D sa A s xb1 (xup (xup (G) 14 n (rfs (D.2 3) 8 (fun _ => none))) 13 n (.inr (3, [.int (nI (mk)), .int (nI (0)), .ref (xb1 14 n), .int (nI (0)), .null, .null]))) H locs := hW.eqG (xup_sq _ _ _ _ _).symm
  refine lv_aload_n hx hb dX3_init_18 rfl (lv_at hl 0 rfl) ?_
  refine lv_iload_n hx hb dX3_init_19 rfl (lv_at hl 2 rfl) ?_
  refine x_putF (ty := .int) (v := .int (nI (z))) hx hb hts hin3 tyX3 tyX3_ok nmX3 hown hW 13 (n) (fs := [.int (nI (mk)), .int (nI (0)), .ref (xb1 14 n), .int (nI (0)), .null, .null]) ((xup_self _ _ _ _)) rfl 1 (by decide) (hts (.fieldLink RX3 21 RX3 "size" "I") (by decide +kernel)) rfl rfl hnm (by decide +kernel) rfl rfl (Nat.le_of_ble_eq_true rfl) dX3_init_20 fun H locs hW => ?_
  have hW : xW D sa A s xb1 (xup (xup (G) 14 n (rfs (D.2 3) 8 (fun _ => none))) 13 n (.inr (3, [.int (nI (mk)), .int (nI (z)), .ref (xb1 14 n), .int (nI (0)), .null, .null]))) H locs := hW.eqG (xup_sq _ _ _ _ _).symm
  exact xe_v hx hb hr hlocks hW ⟨xb1, hxb1, rfl⟩ (Nat.le_of_ble_eq_true rfl) (Nat.le_of_ble_eq_true rfl) dX3_init_23
