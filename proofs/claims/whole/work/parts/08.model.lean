/-! NUMBERS -/
theorem x_inc (a n : Nat) {k : Int} (h : k = (n : Int)) : nI a + Int32.ofInt k = nI (a + n) := by
  subst h
  rw [← nI_add]
  rfl
theorem x_t0 : (0 : Int32).toInt = 0 := by decide +kernel
theorem x_tm1 : (-1 : Int32).toInt = -1 := by decide +kernel
theorem x_eqN {a b : Nat} (ha : a < 2 ^ 31) (hb : b < 2 ^ 31) : nI a = nI b ↔ a = b := nI_eq ha hb
theorem x_eqZ {a : Nat} (ha : a < 2 ^ 31) : nI a = 0 ↔ a = 0 := by rw [← nI_0]; exact nI_eq ha (by omega)
theorem x_nat {x : Int32} {n : Nat} (h0 : 0 ≤ x.toInt) (h1 : x.toInt < n) : ∃ i : Nat, i < n ∧ x = nI i := by
  have hb := x.toInt_lt
  refine ⟨x.toInt.toNat, by omega, Int32.toInt_inj.mp ?_⟩
  rw [nI_toInt (by omega)]
  omega
/-- an answer that is a truth -/
def tv (r : Int32) (P : Prop) : Prop := (r = 0 ∨ r = 1) ∧ (¬ r = 0 ↔ P)
theorem tv.t {r : Int32} {P : Prop} (h : tv r P) (h0 : ¬ r = 0) : P := h.2.mp h0
theorem tv.f {r : Int32} {P : Prop} (h : tv r P) (h0 : r = 0) : ¬ P := fun hp => h.2.mpr hp h0
theorem tv.yes {P : Prop} (h : P) : tv 1 P := ⟨Or.inr rfl, fun _ => h, fun _ => by decide⟩
theorem tv.no {P : Prop} (h : ¬ P) : tv 0 P := ⟨Or.inl rfl, fun z => absurd rfl z, fun z => absurd z h⟩
theorem tv.one {P : Prop} (h : P) : tv (nI 1) P := tv.yes h
theorem tv.zero {P : Prop} (h : ¬ P) : tv (nI 0) P := tv.no h
theorem tv.to {r : Int32} {P P' : Prop} (h : tv r P) (e : P ↔ P') : tv r P' := ⟨h.1, h.2.trans e⟩
theorem tv.cl {r : Int32} {P : Prop} (h : tv r P) : (r = 1 ∧ P) ∨ (r = 0 ∧ ¬ P) := by
  rcases h.1 with h0 | h0
  · exact Or.inr ⟨h0, h.f h0⟩
  · exact Or.inl ⟨h0, h.t (by rw [h0]; decide)⟩
theorem tv.nar {r : Int32} {P : Prop} (h : tv r P) : narrow .boolean (.int r) = .int r := by
  rcases h.1 with rfl | rfl <;> rfl
theorem tv.uniq {r r' : Int32} {P P' : Prop} (h : tv r P) (h' : tv r' P') (e : P ↔ P') : r = r' := by
  rcases h.cl with ⟨a, b⟩ | ⟨a, b⟩ <;> rcases h'.cl with ⟨a', b'⟩ | ⟨a', b'⟩
  · rw [a, a']
  · exact absurd (e.mp b) b'
  · exact absurd (e.mpr b') b
  · rw [a, a']
/-- a truth as a number -/
theorem tv.nat {r : Int32} {P : Prop} (h : tv r P) : ∃ n : Nat, n < 2 ∧ r = nI n ∧ (n = 1 ↔ P) := by
  rcases h.cl with ⟨a, b⟩ | ⟨a, b⟩
  · exact ⟨1, by omega, a, fun _ => b, fun _ => rfl⟩
  · exact ⟨0, by omega, a, fun z => absurd z (by omega), fun z => absurd z b⟩
theorem tv.ofNat {n : Nat} (h : n < 2) : tv (nI n) (n = 1) := by
  rcases (show n = 0 ∨ n = 1 by omega) with rfl | rfl
  · exact tv.zero (by omega)
  · exact tv.one rfl
/-! THE REFERENCE'S STATE: row j of 'σ' is its field j (a number at place 0, or an array); its order of stations 'ρ' and its last code 'la' apart -/
abbrev Sg : Type := Nat → Nat → Nat
def sup (σ : Sg) (j i v : Nat) : Sg := fun j' i' => if j' = j ∧ i' = i then v else σ j' i'
theorem sup_row (σ : Sg) {j j' : Nat} (i v : Nat) (h : j' ≠ j) : sup σ j i v j' = σ j' := by funext q; simp [sup, h]
theorem sup_self (σ : Sg) (j i v : Nat) : sup σ j i v j i = v := by simp [sup]
theorem sup_ne (σ : Sg) {j i v j' i' : Nat} (h : ¬ (j' = j ∧ i' = i)) : sup σ j i v j' i' = σ j' i' := by simp [sup, h]
def rup (ρ : Nat → Nat) (i v : Nat) : Nat → Nat := fun q => if q = i then v else ρ q
def mlen : Nat → Nat := fun j => match j with
  | 1 => 12
  | 2 => 12
  | 3 => 144
  | 4 => 12
  | 8 => 5
  | 9 => 10
  | 10 => 10
  | 11 => 10
  | 19 => 8
  | _ => 80
def mty : Nat → Nat := fun j => match j with
  | 2 => 5
  | 17 => 5
  | 18 => 5
  | _ => 4
def mfs (xa : xA) (σ : Sg) (la : Nat) : List Value := [.int (nI (σ 0 0)), .ref (xa 20 1), .ref (xa 20 2), .ref (xa 20 3), .ref (xa 20 4), .int (nI (σ 5 0)), .ref (xa 20 6), .int (nI (σ 7 0)), .ref (xa 20 8), .ref (xa 20 9), .ref (xa 20 10), .ref (xa 20 11), .int (nI (σ 12 0)), .ref (xa 20 13), .ref (xa 20 14), .ref (xa 20 15), .ref (xa 20 16), .ref (xa 20 17), .ref (xa 20 18), .ref (xa 20 19), .int (nI la)]
def marr (D : xD) (σ : Sg) (j : Nat) : va_E := .inl (D.2 (mty j), mlen j, .inl (fun i => nI (σ j i)))
def mE (D : xD) (xa : xA) (σ : Sg) (ρ : Nat → Nat) (la : Nat) : Nat → Option va_E := fun j => match j with
  | 0 => some (.inr (5, mfs xa σ la))
  | 5 => none
  | 7 => none
  | 12 => none
  | 19 => some (.inl (D.2 4, 8, .inl (fun i => nI (ρ i))))
  | j => if j < 20 then some (marr D σ j) else none
def mG (G0 : xG) (D : xD) (xa : xA) (σ : Sg) (ρ : Nat → Nat) (la : Nat) : xG := fun k i => if k = 20 then mE D xa σ ρ la i else G0 k i
theorem mG_obj (G0 : xG) (D : xD) (xa : xA) (σ : Sg) (ρ : Nat → Nat) (la : Nat) : mG G0 D xa σ ρ la 20 0 = some (.inr (5, mfs xa σ la)) := rfl
/-- the arrays but 'order' -/
def mArr (j : Nat) : Prop := j < 19 ∧ j ≠ 0 ∧ j ≠ 5 ∧ j ≠ 7 ∧ j ≠ 12
theorem mE_arr (D : xD) (xa : xA) (σ : Sg) (ρ : Nat → Nat) (la : Nat) {j : Nat} (h : mArr j) : mE D xa σ ρ la j = some (marr D σ j) := by
  obtain ⟨h1, h2, h3, h4, h5⟩ := h
  match j with
  | 0 | 5 | 7 | 12 => omega
  | 1 | 2 | 3 | 4 | 6 | 8 | 9 | 10 | 11 | 13 | 14 | 15 | 16 | 17 | 18 => rfl
  | j + 19 => omega
theorem mG_arr (G0 : xG) (D : xD) (xa : xA) (σ : Sg) (ρ : Nat → Nat) (la : Nat) {j : Nat} (h : mArr j) : mG G0 D xa σ ρ la 20 j = some (marr D σ j) := (if_pos rfl).trans (mE_arr D xa σ ρ la h)
theorem nI_upd (f : Nat → Nat) (p v : Nat) : upd (fun i => nI (f i)) p (nI v) = fun i => nI (rup f p v i) := by
  funext q
  by_cases h : q = p <;> simp [upd, rup, h]
theorem mG_ast (G0 : xG) (D : xD) (xa : xA) (σ : Sg) (ρ : Nat → Nat) (la : Nat) {j : Nat} (h : mArr j) (p v : Nat) : xup (mG G0 D xa σ ρ la) 20 j (.inl (D.2 (mty j), mlen j, .inl (upd (fun i => nI (σ j i)) p (nI v)))) = mG G0 D xa (sup σ j p v) ρ la := by
  funext k q
  by_cases hk : k = 20
  · subst hk
    by_cases hq : q = j
    · subst hq
      rw [xup_self, mG_arr G0 D xa _ ρ la h]
      unfold marr
      congr 5
      funext x
      by_cases hx : x = p <;> simp [upd, sup, hx]
    · rw [xup_ne _ _ (by simp [hq])]
      have hr : sup σ j p v q = σ q := sup_row σ p v hq
      obtain ⟨h1, h2, h3, h4, h5⟩ := h
      show mE D xa σ ρ la q = mE D xa (sup σ j p v) ρ la q
      have f0 : sup σ j p v 0 0 = σ 0 0 := sup_ne σ (by omega)
      have f5 : sup σ j p v 5 0 = σ 5 0 := sup_ne σ (by omega)
      have f7 : sup σ j p v 7 0 = σ 7 0 := sup_ne σ (by omega)
      have f12 : sup σ j p v 12 0 = σ 12 0 := sup_ne σ (by omega)
      have hm : marr D (sup σ j p v) q = marr D σ q := by unfold marr; rw [hr]
      unfold mE
      split <;> first | rfl | (simp only [mfs, f0, f5, f7, f12]; done) | (rw [hm])
  · rw [xup_ne _ _ (by simp [hk])]
    simp [mG, hk]
theorem mG_ost (G0 : xG) (D : xD) (xa : xA) (σ : Sg) (ρ : Nat → Nat) (la : Nat) (p v : Nat) : xup (mG G0 D xa σ ρ la) 20 19 (.inl (D.2 4, 8, .inl (upd (fun i => nI (ρ i)) p (nI v)))) = mG G0 D xa σ (rup ρ p v) la := by
  funext k q
  by_cases hk : k = 20
  · subst hk
    by_cases hq : q = 19
    · subst hq
      rw [xup_self, nI_upd]
      rfl
    · rw [xup_ne _ _ (by simp [hq])]
      show mE D xa σ ρ la q = mE D xa σ (rup ρ p v) la q
      unfold mE
      split <;> first | rfl | omega
  · rw [xup_ne _ _ (by simp [hk])]
    simp [mG, hk]
theorem mG_la (G0 : xG) (D : xD) (xa : xA) (σ : Sg) (ρ : Nat → Nat) (la v : Nat) : xup (mG G0 D xa σ ρ la) 20 0 (.inr (5, (mfs xa σ la).set 20 (.int (nI v)))) = mG G0 D xa σ ρ v := by
  funext k q
  by_cases hk : k = 20
  · subst hk
    by_cases hq : q = 0
    · subst hq
      rw [xup_self]
      rfl
    · rw [xup_ne _ _ (by simp [hq])]
      show mE D xa σ ρ la q = mE D xa σ ρ v q
      unfold mE
      split <;> first | rfl | omega
  · rw [xup_ne _ _ (by simp [hk])]
    simp [mG, hk]
theorem mG_sc (G0 : xG) (D : xD) (xa : xA) (σ : Sg) (ρ : Nat → Nat) (la : Nat) {j : Nat} (h : j = 0 ∨ j = 5 ∨ j = 7 ∨ j = 12) (v : Nat) : xup (mG G0 D xa σ ρ la) 20 0 (.inr (5, (mfs xa σ la).set j (.int (nI v)))) = mG G0 D xa (sup σ j 0 v) ρ la := by
  have key : (mfs xa σ la).set j (.int (nI v)) = mfs xa (sup σ j 0 v) la := by
    rcases h with rfl | rfl | rfl | rfl <;> rfl
  funext k q
  by_cases hk : k = 20
  · subst hk
    by_cases hq : q = 0
    · subst hq
      rw [xup_self, key]
      rfl
    · rw [xup_ne _ _ (by simp [hq])]
      show mE D xa σ ρ la q = mE D xa (sup σ j 0 v) ρ la q
      by_cases hj : q = j
      · subst hj
        rcases h with rfl | rfl | rfl | rfl
        · exact absurd rfl hq
        · rfl
        · rfl
        · rfl
      · have hm : marr D (sup σ j 0 v) q = marr D σ q := by unfold marr; rw [sup_row σ 0 v hj]
        unfold mE
        split <;> first | rfl | omega | rw [hm]
  · rw [xup_ne _ _ (by simp [hk])]
    simp [mG, hk]
section MR
variable {p : Program} {l : Launch} {e : Env} {R : Room} {s : State} {m : MethodId} {args : Array Value} {below : List Frame} {meth : Method} {c : Code} {H : Heap} {locs : List Loc} {cells slots : Nat} {Q : State → Prop}
variable {cc : ByteArray} {pc : Nat} {ls : Array Slot} {rest : List Value} {D : xD} {sa : Nat → Nat} {A : Nat → Prop} {xa : xA} {G0 : xG} {σ : Sg} {ρ : Nat → Nat} {la : Nat}
theorem m_get (hexec : p.tables.exec = Jvm.exec) (hb : c.code = cc) {index : Nat} {Ts : List Cond} (hts : ∀ w ∈ Ts, w.before args s = true) (hin : ∀ w ∈ wsX50, w ∈ Ts) (hown : s.vm.findClass RX5 = some m.cls) (hW : xW D sa A s xa (mG G0 D xa σ ρ la) H locs) (j : Nat) (hj : j < 21) (hsame : (TX5 j).1 = "RestitutoryModel") (hlink : (Cond.fieldLink RX5 index "RestitutoryModel" (TX5 j).2.1 (TX5 j).2.2.1).before args s = true) {v : Value} (hv : (mfs xa σ la)[j]? = some v) (hdg : decode cc pc = .ok (.getfield index, 3))
    (kk : W p l e R s m args below meth c H locs cells slots Q (F0 m (pc + 3) ls (v :: rest))) : W p l e R s m args below meth c H locs cells slots Q (F0 m pc ls (.ref (xa 20 0) :: rest)) :=
  x_get hexec hb hts hin hown hW 20 0 (mG_obj G0 D xa σ ρ la) rfl j hj hlink hsame hv hdg kk
theorem m_put (hexec : p.tables.exec = Jvm.exec) (hb : c.code = cc) {index : Nat} {Ts : List Cond} (hts : ∀ w ∈ Ts, w.before args s = true) (hin : ∀ w ∈ wsX50, w ∈ Ts) (hown : s.vm.findClass RX5 = some m.cls) (hW : xW D sa A s xa (mG G0 D xa σ ρ la) H locs) (j : Nat) (hj : j = 0 ∨ j = 5 ∨ j = 7 ∨ j = 12) (hlink : (Cond.fieldLink RX5 index "RestitutoryModel" (TX5 j).2.1 (TX5 j).2.2.1).before args s = true) {v : Nat} (hdg : decode cc pc = .ok (.putfield index, 3))
    (kk : ∀ (H1 : Heap) (locs1 : List Loc), xW D sa A s xa (mG G0 D xa (sup σ j 0 v) ρ la) H1 locs1 → W p l e R s m args below meth c H1 locs1 cells slots Q (F0 m (pc + 3) ls rest)) : W p l e R s m args below meth c H locs cells slots Q (F0 m pc ls (.int (nI v) :: .ref (xa 20 0) :: rest)) := by
  refine x_put (ty := .int) hexec hb hts hin tyX5 tyX5_ok nmX5 hown hW 20 0 (mG_obj G0 D xa σ ρ la) rfl j (by omega) hlink (by rcases hj with rfl | rfl | rfl | rfl <;> rfl) (by rcases hj with rfl | rfl | rfl | rfl <;> rfl) (by rcases hj with rfl | rfl | rfl | rfl <;> decide +kernel) rfl rfl (by rcases hj with rfl | rfl | rfl | rfl <;> exact Nat.le_of_ble_eq_true rfl) hdg fun H1 locs1 h1 => kk H1 locs1 ?_
  rw [← mG_sc G0 D xa σ ρ la hj v]
  exact h1
theorem m_putLa (hexec : p.tables.exec = Jvm.exec) (hb : c.code = cc) {index : Nat} {Ts : List Cond} (hts : ∀ w ∈ Ts, w.before args s = true) (hin : ∀ w ∈ wsX50, w ∈ Ts) (hown : s.vm.findClass RX5 = some m.cls) (hW : xW D sa A s xa (mG G0 D xa σ ρ la) H locs) (hlink : (Cond.fieldLink RX5 index "RestitutoryModel" (TX5 20).2.1 (TX5 20).2.2.1).before args s = true) {v : Nat} (hdg : decode cc pc = .ok (.putfield index, 3))
    (kk : ∀ (H1 : Heap) (locs1 : List Loc), xW D sa A s xa (mG G0 D xa σ ρ v) H1 locs1 → W p l e R s m args below meth c H1 locs1 cells slots Q (F0 m (pc + 3) ls rest)) : W p l e R s m args below meth c H locs cells slots Q (F0 m pc ls (.int (nI v) :: .ref (xa 20 0) :: rest)) := by
  refine x_put (ty := .int) hexec hb hts hin tyX5 tyX5_ok nmX5 hown hW 20 0 (mG_obj G0 D xa σ ρ la) rfl 20 (by omega) hlink rfl rfl (by decide +kernel) rfl rfl (Nat.le_of_ble_eq_true rfl) hdg fun H1 locs1 h1 => kk H1 locs1 ?_
  rw [← mG_la G0 D xa σ ρ la v]
  exact h1
theorem m_ild (hexec : p.tables.exec = Jvm.exec) (hb : c.code = cc) (hW : xW D sa A s xa (mG G0 D xa σ ρ la) H locs) (j N : Nat) (hj : mArr j) (ht : mty j = 4) (hN : mlen j = N) (i : Nat) (hlt : i < N) {v : Nat} (hv : σ j i = v) (hdg : decode cc pc = .ok (.iaload, 1))
    (kk : W p l e R s m args below meth c H locs cells slots Q (F0 m (pc + 1) ls (.int (nI v) :: rest))) : W p l e R s m args below meth c H locs cells slots Q (F0 m pc ls (.int (nI i) :: .ref (xa 20 j) :: rest)) := by
  subst hv
  have hG := mG_arr G0 D xa σ ρ la hj
  unfold marr at hG
  rw [ht, hN] at hG
  refine x_ild hexec hb hW 20 j hG i rfl hlt ?_ rfl hdg kk
  have h1 := hj.1
  have h2 : mlen j ≤ 144 := by unfold mlen; split <;> omega
  omega
theorem m_zld (hexec : p.tables.exec = Jvm.exec) (hb : c.code = cc) (hW : xW D sa A s xa (mG G0 D xa σ ρ la) H locs) (j N : Nat) (hj : mArr j) (ht : mty j = 5) (hN : mlen j = N) (i : Nat) (hlt : i < N) {v : Nat} (hv : σ j i = v) (hdg : decode cc pc = .ok (.baload, 1))
    (kk : W p l e R s m args below meth c H locs cells slots Q (F0 m (pc + 1) ls (.int (nI v) :: rest))) : W p l e R s m args below meth c H locs cells slots Q (F0 m pc ls (.int (nI i) :: .ref (xa 20 j) :: rest)) := by
  subst hv
  have hG := mG_arr G0 D xa σ ρ la hj
  unfold marr at hG
  rw [ht, hN] at hG
  refine x_zld hexec hb hW 20 j hG i rfl hlt ?_ rfl hdg kk
  have h1 := hj.1
  have h2 : mlen j ≤ 144 := by unfold mlen; split <;> omega
  omega
theorem m_old (hexec : p.tables.exec = Jvm.exec) (hb : c.code = cc) (hW : xW D sa A s xa (mG G0 D xa σ ρ la) H locs) (i : Nat) (hlt : i < 8) {v : Nat} (hv : ρ i = v) (hdg : decode cc pc = .ok (.iaload, 1))
    (kk : W p l e R s m args below meth c H locs cells slots Q (F0 m (pc + 1) ls (.int (nI v) :: rest))) : W p l e R s m args below meth c H locs cells slots Q (F0 m pc ls (.int (nI i) :: .ref (xa 20 19) :: rest)) :=
  x_ild hexec hb hW 20 19 (n := 8) (f := fun i => nI (ρ i)) rfl i rfl hlt (by omega) (congrArg nI hv) hdg kk
theorem m_ist (hexec : p.tables.exec = Jvm.exec) (hb : c.code = cc) (hW : xW D sa A s xa (mG G0 D xa σ ρ la) H locs) (j N : Nat) (hj : mArr j) (ht : mty j = 4) (hN : mlen j = N) (i : Nat) (hlt : i < N) {v : Nat} (hdg : decode cc pc = .ok (.iastore, 1))
    (kk : ∀ (H1 : Heap) (locs1 : List Loc), xW D sa A s xa (mG G0 D xa (sup σ j i v) ρ la) H1 locs1 → W p l e R s m args below meth c H1 locs1 cells slots Q (F0 m (pc + 1) ls rest)) : W p l e R s m args below meth c H locs cells slots Q (F0 m pc ls (.int (nI v) :: .int (nI i) :: .ref (xa 20 j) :: rest)) := by
  have hG := mG_arr G0 D xa σ ρ la hj
  have hE := mG_ast G0 D xa σ ρ la hj i v
  unfold marr at hG
  rw [ht, hN] at hG
  rw [ht, hN] at hE
  refine x_ist hexec hb hW 20 j hG i rfl hlt ?_ hdg (fun H1 locs1 h1 => kk H1 locs1 (by rw [← hE]; exact h1))
  have h1 := hj.1
  have h2 : mlen j ≤ 144 := by unfold mlen; split <;> omega
  omega
theorem m_zst (hexec : p.tables.exec = Jvm.exec) (hb : c.code = cc) (hW : xW D sa A s xa (mG G0 D xa σ ρ la) H locs) (j N : Nat) (hj : mArr j) (ht : mty j = 5) (hN : mlen j = N) (i : Nat) (hlt : i < N) {v : Nat} (hv : v < 2) (hdg : decode cc pc = .ok (.bastore, 1))
    (kk : ∀ (H1 : Heap) (locs1 : List Loc), xW D sa A s xa (mG G0 D xa (sup σ j i v) ρ la) H1 locs1 → W p l e R s m args below meth c H1 locs1 cells slots Q (F0 m (pc + 1) ls rest)) : W p l e R s m args below meth c H locs cells slots Q (F0 m pc ls (.int (nI v) :: .int (nI i) :: .ref (xa 20 j) :: rest)) := by
  have hG := mG_arr G0 D xa σ ρ la hj
  have hE := mG_ast G0 D xa σ ρ la hj i v
  unfold marr at hG
  rw [ht, hN] at hG
  rw [ht, hN] at hE
  refine x_zst hexec hb hW 20 j hG i rfl hlt ?_ (tv.ofNat hv).nar hdg (fun H1 locs1 h1 => kk H1 locs1 (by rw [← hE]; exact h1))
  have h1 := hj.1
  have h2 : mlen j ≤ 144 := by unfold mlen; split <;> omega
  omega
theorem m_ost (hexec : p.tables.exec = Jvm.exec) (hb : c.code = cc) (hW : xW D sa A s xa (mG G0 D xa σ ρ la) H locs) (i : Nat) (hlt : i < 8) {v : Nat} (hdg : decode cc pc = .ok (.iastore, 1))
    (kk : ∀ (H1 : Heap) (locs1 : List Loc), xW D sa A s xa (mG G0 D xa σ (rup ρ i v) la) H1 locs1 → W p l e R s m args below meth c H1 locs1 cells slots Q (F0 m (pc + 1) ls rest)) : W p l e R s m args below meth c H locs cells slots Q (F0 m pc ls (.int (nI v) :: .int (nI i) :: .ref (xa 20 19) :: rest)) :=
  x_ist hexec hb hW 20 19 (n := 8) (f := fun i => nI (ρ i)) rfl i rfl hlt (by omega) hdg (fun H1 locs1 h1 => kk H1 locs1 (by rw [← mG_ost]; exact h1))
end MR
/-- contracts of the reference's methods: the state behind it, what is said of the answer -/
def mCi (l : Launch) (y : MethodName) (ws : List Cond) (rm : Room) (D : xD) (sa : Nat → Nat) (xa : xA) (G0 : xG) (σ : Sg) (ρ : Nat → Nat) (la : Nat) (av : List Value) (P : Int32 → Sg → (Nat → Nat) → Nat → Prop) : Prop :=
  xCi l y ws rm D sa xa (mG G0 D xa σ ρ la) (.ref (xa 20 0) :: av) (fun r u => ∃ (σ1 : Sg) (ρ1 : Nat → Nat) (la1 : Nat), u = (xa, mG G0 D xa σ1 ρ1 la1) ∧ P r σ1 ρ1 la1) 0 0
section XJ
variable {p : Program} {l : Launch} {e : Env} {R : Room} {s : State} {m : MethodId} {args : Array Value} {below : List Frame} {meth : Method} {c : Code} {H : Heap} {locs : List Loc} {cells slots : Nat} {Q : State → Prop} {D : xD} {sa : Nat → Nat} {A : Nat → Prop} {xa : xA} {G : xG} {ls : Array Slot}
/-- a truth that comes by several ways -/
theorem x_joinW {g : JFrame} {P : Prop} {mpc : Nat} {rest : List Value} (h : ∀ (H : Heap) (locs : List Loc) (r : Int32), xW D sa A s xa G H locs → tv r P → W p l e R s m args below meth c H locs cells slots Q (F0 m mpc ls (.int r :: rest)))
    (k : (∀ (H : Heap) (locs : List Loc) (r : Int32), xW D sa A s xa G H locs → tv r P → W p l e R s m args below meth c H locs cells slots Q (F0 m mpc ls (.int r :: rest))) → W p l e R s m args below meth c H locs cells slots Q g) : W p l e R s m args below meth c H locs cells slots Q g := k h
end XJ
def mRd (l : Launch) (y : MethodName) (ws : List Cond) (rm : Room) (D : xD) (sa : Nat → Nat) (xa : xA) (G0 : xG) (σ : Sg) (ρ : Nat → Nat) (la : Nat) (av : List Value) (P : Int32 → Prop) : Prop :=
  xCi l y ws rm D sa xa (mG G0 D xa σ ρ la) (.ref (xa 20 0) :: av) (fun r u => u = (xa, mG G0 D xa σ ρ la) ∧ P r) 0 0
section XL
variable {p : Program} {l : Launch} {e : Env} {R : Room} {s : State} {m : MethodId} {args : Array Value} {below : List Frame} {meth : Method} {c : Code} {H : Heap} {locs : List Loc} {cells slots : Nat} {Q : State → Prop} {ls : Array Slot}
/-- a loop: a number that falls, an invariant -/
theorem x_loop {X : Type} {I : Nat → X → Heap → List Loc → Array Slot → Prop} {hd : Nat} (step : ∀ (n : Nat) (x : X) (H : Heap) (locs : List Loc) (ls : Array Slot), I n x H locs ls → (∀ (n' : Nat) (x' : X) (H' : Heap) (locs' : List Loc) (ls' : Array Slot), n' < n → I n' x' H' locs' ls' → W p l e R s m args below meth c H' locs' cells slots Q (F0 m hd ls' [])) → W p l e R s m args below meth c H locs cells slots Q (F0 m hd ls []))
    {n : Nat} {x : X} (h0 : I n x H locs ls) : W p l e R s m args below meth c H locs cells slots Q (F0 m hd ls []) := by
  have key : ∀ (k n : Nat), n < k → ∀ (x : X) (H : Heap) (locs : List Loc) (ls : Array Slot), I n x H locs ls → W p l e R s m args below meth c H locs cells slots Q (F0 m hd ls []) := by
    intro k
    induction k with
    | zero => intro n hn; omega
    | succ k ih => intro n hn x H locs ls hI; exact step n x H locs ls hI (fun n' x' H' locs' ls' hlt hI' => ih n' (by omega) x' H' locs' ls' hI')
  exact key (n + 1) n (by omega) x H locs ls h0
end XL
