/-! THE CLASS'S STATE: the same numbers 'σ', and 'τ': who ends with the title (row 0, people), the first and the last station (rows 1, 2, things), the one ahead and the next one (rows 3, 4, stations; station k of thing i is 8 * i + k) -/
abbrev Tg : Type := Nat → Nat → Option Nat
def lvS (σ : Sg) (j : Nat) : Prop := j / 8 < σ 12 0 ∧ j % 8 < σ 11 (j / 8)
theorem lvS_of {σ : Sg} {i k : Nat} (hi : i < σ 12 0) (hk : k < σ 11 i) (h8 : σ 11 i ≤ 8) : lvS σ (8 * i + k) := by
  unfold lvS
  rw [show (8 * i + k) / 8 = i by omega, show (8 * i + k) % 8 = k by omega]
  exact ⟨hi, hk⟩
def xfs (xa : xA) (σ : Sg) : List Value := [.ref (xa 1 0), .int (nI (σ 5 0)), .ref (xa 2 0), .int (nI (σ 7 0)), .ref (xa 3 0), .int (nI (σ 0 0)), .ref (xa 4 0), .int (nI (σ 12 0))]
def pfs (xa : xA) (σ : Sg) (τ : Tg) (i : Nat) : List Value := [.int (nI i), .int (nI (σ 1 i)), .int (nI (σ 2 i)), .ref (xa 11 i), .int (nI (σ 4 i)), va_rf ((τ 0 i).map (xa 10))]
def efs (σ : Sg) (i : Nat) : List Value := [.int (nI (σ 6 (4 * i))), .int (nI (σ 6 (4 * i + 1))), .int (nI (σ 6 (4 * i + 2))), .int (nI (σ 6 (4 * i + 3)))]
def tfs (xa : xA) (σ : Sg) (τ : Tg) (i : Nat) : List Value := [.int (nI (σ 9 i)), .int (nI (σ 10 i)), .ref (xa 14 i), .int (nI (σ 11 i)), va_rf ((τ 1 i).map (xa 15)), va_rf ((τ 2 i).map (xa 15))]
def sfs (xa : xA) (σ : Sg) (τ : Tg) (j : Nat) : List Value := [.int (nI (j % 8)), .ref (xa 10 (σ 13 j)), .int (nI (σ 14 j)), .int (nI (σ 15 j)), .int (nI (σ 16 j)), .int (nI (σ 17 j)), .int (nI (σ 18 j)), va_rf ((τ 3 j).map (xa 15)), va_rf ((τ 4 j).map (xa 15))]
def rfs (cA : ClassId) (n : Nat) (f : Nat → Option Nat) : va_E := .inl (cA, n, .inr (.inr (.inr (.inr f))))
def xE (D : xD) (xa : xA) (σ : Sg) (τ : Tg) (k i : Nat) : Option va_E := match k with
  | 0 => if i = 0 then some (.inr (4, xfs xa σ)) else none
  | 1 => if i = 0 then some (rfs (D.2 0) 12 (fun j => if j < σ 5 0 then some (xa 10 j) else none)) else none
  | 2 => if i = 0 then some (rfs (D.2 1) 20 (fun j => if j < σ 7 0 then some (xa 12 j) else none)) else none
  | 3 => if i = 0 then some (.inl (D.2 4, 5, .inl (fun j => nI (σ 8 j)))) else none
  | 4 => if i = 0 then some (rfs (D.2 2) 10 (fun j => if j < σ 12 0 then some (xa 13 j) else none)) else none
  | 10 => if i < σ 5 0 then some (.inr (1, pfs xa σ τ i)) else none
  | 11 => if i < σ 5 0 then some (rfs (D.2 0) 11 (fun j => if j < σ 4 i then some (xa 10 (σ 3 (12 * i + j))) else none)) else none
  | 12 => if i < σ 7 0 then some (.inr (0, efs σ i)) else none
  | 13 => if i < σ 12 0 then some (.inr (3, tfs xa σ τ i)) else none
  | 14 => if i < σ 12 0 then some (rfs (D.2 3) 8 (fun j => if j < σ 11 i then some (xa 15 (8 * i + j)) else none)) else none
  | 15 => if i / 8 < σ 12 0 ∧ i % 8 < σ 11 (i / 8) then some (.inr (2, sfs xa σ τ i)) else none
  | _ => none
def xGs (G0 : xG) (D : xD) (xa : xA) (σ : Sg) (τ : Tg) : xG := fun k i => if k < 20 then xE D xa σ τ k i else G0 k i
section XG
variable (G0 : xG) (D : xD) (xa : xA) (σ : Sg) (τ : Tg) {i : Nat}
theorem xg_x : xGs G0 D xa σ τ 0 0 = some (.inr (4, xfs xa σ)) := rfl
theorem xg_pa : xGs G0 D xa σ τ 1 0 = some (rfs (D.2 0) 12 (fun j => if j < σ 5 0 then some (xa 10 j) else none)) := rfl
theorem xg_ea : xGs G0 D xa σ τ 2 0 = some (rfs (D.2 1) 20 (fun j => if j < σ 7 0 then some (xa 12 j) else none)) := rfl
theorem xg_fa : xGs G0 D xa σ τ 3 0 = some (.inl (D.2 4, 5, .inl (fun j => nI (σ 8 j)))) := rfl
theorem xg_ta : xGs G0 D xa σ τ 4 0 = some (rfs (D.2 2) 10 (fun j => if j < σ 12 0 then some (xa 13 j) else none)) := rfl
theorem xg_p (h : i < σ 5 0) : xGs G0 D xa σ τ 10 i = some (.inr (1, pfs xa σ τ i)) := (if_pos (by omega : 10 < 20)).trans (if_pos h)
theorem xg_h (h : i < σ 5 0) : xGs G0 D xa σ τ 11 i = some (rfs (D.2 0) 11 (fun j => if j < σ 4 i then some (xa 10 (σ 3 (12 * i + j))) else none)) := (if_pos (by omega : 11 < 20)).trans (if_pos h)
theorem xg_e (h : i < σ 7 0) : xGs G0 D xa σ τ 12 i = some (.inr (0, efs σ i)) := (if_pos (by omega : 12 < 20)).trans (if_pos h)
theorem xg_t (h : i < σ 12 0) : xGs G0 D xa σ τ 13 i = some (.inr (3, tfs xa σ τ i)) := (if_pos (by omega : 13 < 20)).trans (if_pos h)
theorem xg_sa (h : i < σ 12 0) : xGs G0 D xa σ τ 14 i = some (rfs (D.2 3) 8 (fun j => if j < σ 11 i then some (xa 15 (8 * i + j)) else none)) := (if_pos (by omega : 14 < 20)).trans (if_pos h)
theorem xg_s (h : lvS σ i) : xGs G0 D xa σ τ 15 i = some (.inr (2, sfs xa σ τ i)) := (if_pos (by omega : 15 < 20)).trans (if_pos h)
end XG
/-- the stations hang together in their order -/
def LL (σ : Sg) (τ : Tg) : Prop := ∀ i, i < σ 12 0 → τ 1 i = (if σ 11 i = 0 then none else some (8 * i + ordr σ i 0)) ∧ τ 2 i = (if σ 11 i = 0 then none else some (8 * i + ordr σ i (σ 11 i - 1))) ∧
  ∀ q, q < σ 11 i → τ 3 (8 * i + ordr σ i q) = (if q = 0 then none else some (8 * i + ordr σ i (q - 1))) ∧ τ 4 (8 * i + ordr σ i q) = (if q + 1 < σ 11 i then some (8 * i + ordr σ i (q + 1)) else none)
/-- who is told to end with a title is somebody -/
def TE (σ : Sg) (τ : Tg) : Prop := ∀ i p, i < σ 5 0 → τ 0 i = some p → p < σ 5 0
section XRD
variable {p : Program} {l : Launch} {e : Env} {R : Room} {s : State} {m : MethodId} {args : Array Value} {below : List Frame} {meth : Method} {c : Code} {H : Heap} {locs : List Loc} {cells slots : Nat} {Q : State → Prop}
variable {cc : ByteArray} {pc : Nat} {ls : Array Slot} {rest : List Value} {D : xD} {sa : Nat → Nat} {A : Nat → Prop} {xa : xA} {G : xG}
/-- a place of an array of references -/
theorem x_ald2 (hexec : p.tables.exec = Jvm.exec) (hb : c.code = cc) (hW : xW D sa A s xa G H locs) (k i t : Nat) {C : String} (ht : (xtys D)[t]? = some (D.2 t, .object C)) {n : Nat} {f : Nat → Option Nat} (hG : G k i = some (rfs (D.2 t) n f)) (j : Nat) (hlt : j < n) (hn : n < 2 ^ 31) {v : Value} (hv : va_rf (f j) = v) (hdg : decode cc pc = .ok (.aaload, 1))
    (kk : W p l e R s m args below meth c H locs cells slots Q (F0 m (pc + 1) ls (v :: rest))) : W p l e R s m args below meth c H locs cells slots Q (F0 m pc ls (.int (nI j) :: .ref (xa k i) :: rest)) := by
  subst hv
  exact x_ald hexec hb hW k i t ht hG j rfl hlt hn rfl hdg kk
end XRD
