/-! A STATION IS PUT INTO ITS ORDER -/
def LLo (τ : Tg) (i n : Nat) (o : Nat → Nat) : Prop := τ 1 i = (if n = 0 then none else some (8 * i + o 0)) ∧ τ 2 i = (if n = 0 then none else some (8 * i + o (n - 1))) ∧
  ∀ q, q < n → τ 3 (8 * i + o q) = (if q = 0 then none else some (8 * i + o (q - 1))) ∧ τ 4 (8 * i + o q) = (if q + 1 < n then some (8 * i + o (q + 1)) else none)
theorem LLo_ins {τ τ1 : Tg} {i k m : Nat} {o : Nat → Nat} (hm : m ≤ k) (h : LLo τ i k o)
    (h1 : τ1 1 i = if m = 0 then some (8 * i + k) else τ 1 i) (h2 : τ1 2 i = if m = k then some (8 * i + k) else τ 2 i)
    (h3J : τ1 3 (8 * i + k) = if m = 0 then none else some (8 * i + o (m - 1))) (h4J : τ1 4 (8 * i + k) = if m < k then some (8 * i + o m) else none)
    (h3 : ∀ q, q < k → τ1 3 (8 * i + o q) = if q = m then some (8 * i + k) else τ 3 (8 * i + o q)) (h4 : ∀ q, q < k → τ1 4 (8 * i + o q) = if q + 1 = m then some (8 * i + k) else τ 4 (8 * i + o q)) : LLo τ1 i (k + 1) (insF o k m) := by
  obtain ⟨g1, g2, g3⟩ := h
  have lo : ∀ q, q < m → insF o k m q = o q := fun q hq => by unfold insF; rw [if_pos hq]
  have at_ : insF o k m m = k := by unfold insF; rw [if_neg (by omega), if_pos rfl]
  have hi : ∀ q, m < q → insF o k m q = o (q - 1) := fun q hq => by unfold insF; rw [if_neg (by omega), if_neg (by omega)]
  refine ⟨?_, ?_, fun q hq => ?_⟩
  · rw [h1, if_neg (by omega : ¬ k + 1 = 0)]
    by_cases h0 : m = 0
    · subst h0
      rw [if_pos rfl, at_]
    · rw [if_neg h0, g1, if_neg (by omega), lo 0 (by omega)]
  · rw [h2, if_neg (by omega : ¬ k + 1 = 0), Nat.add_sub_cancel]
    by_cases h0 : m = k
    · subst h0
      rw [if_pos rfl, at_]
    · rw [if_neg h0, g2, if_neg (by omega), hi k (by omega)]
  · rcases Nat.lt_trichotomy q m with hqm | hqm | hqm
    · obtain ⟨a3, a4⟩ := g3 q (by omega)
      rw [lo q hqm, h3 q (by omega), h4 q (by omega), if_neg (by omega), a3, a4]
      refine ⟨?_, ?_⟩
      · by_cases hq0 : q = 0
        · rw [if_pos hq0, if_pos hq0]
        · rw [if_neg hq0, if_neg hq0, lo (q - 1) (by omega)]
      · rw [if_pos (by omega : q + 1 < k + 1)]
        by_cases hq1 : q + 1 = m
        · rw [if_pos hq1, hq1, at_]
        · rw [if_neg hq1, if_pos (by omega), lo (q + 1) (by omega)]
    · subst hqm
      rw [at_, h3J, h4J]
      refine ⟨?_, ?_⟩
      · by_cases hq0 : q = 0
        · rw [if_pos hq0, if_pos hq0]
        · rw [if_neg hq0, if_neg hq0, lo (q - 1) (by omega)]
      · by_cases hq1 : q < k
        · rw [if_pos hq1, if_pos (by omega), hi (q + 1) (by omega), Nat.add_sub_cancel]
        · rw [if_neg hq1, if_neg (by omega)]
    · obtain ⟨a3, a4⟩ := g3 (q - 1) (by omega)
      rw [hi q hqm, h3 (q - 1) (by omega), h4 (q - 1) (by omega), a3, a4, if_neg (by omega : ¬ q - 1 + 1 = m)]
      refine ⟨?_, ?_⟩
      · rw [if_neg (by omega : ¬ q = 0)]
        by_cases hq1 : q - 1 = m
        · rw [if_pos hq1, hq1, at_]
        · rw [if_neg hq1, if_neg (by omega), hi (q - 1) (by omega)]
      · by_cases hq1 : q - 1 + 1 < k
        · rw [if_pos hq1, if_pos (by omega), hi (q + 1) (by omega), show q - 1 + 1 = q + 1 - 1 by omega]
        · rw [if_neg hq1, if_neg (by omega)]
def tput (τ : Tg) (i k m : Nat) (o : Nat → Nat) : Tg :=
  if m = k then tup (if m = 0 then tup (tup (tup τ 3 (8 * i + k) (if m = 0 then none else some (8 * i + o (m - 1)))) 4 (8 * i + k) (if m < k then some (8 * i + o m) else none)) 1 i (some (8 * i + k)) else tup (tup (tup τ 3 (8 * i + k) (if m = 0 then none else some (8 * i + o (m - 1)))) 4 (8 * i + k) (if m < k then some (8 * i + o m) else none)) 4 (8 * i + o (m - 1)) (some (8 * i + k))) 2 i (some (8 * i + k))
  else tup (if m = 0 then tup (tup (tup τ 3 (8 * i + k) (if m = 0 then none else some (8 * i + o (m - 1)))) 4 (8 * i + k) (if m < k then some (8 * i + o m) else none)) 1 i (some (8 * i + k)) else tup (tup (tup τ 3 (8 * i + k) (if m = 0 then none else some (8 * i + o (m - 1)))) 4 (8 * i + k) (if m < k then some (8 * i + o m) else none)) 4 (8 * i + o (m - 1)) (some (8 * i + k))) 3 (8 * i + o m) (some (8 * i + k))
/-- nothing but rows 1, 2 of i, rows 3, 4 of its stations has changed -/
def TSame (τ τ1 : Tg) (i : Nat) : Prop := (∀ x, τ1 0 x = τ 0 x) ∧ (∀ x, x ≠ i → τ1 1 x = τ 1 x ∧ τ1 2 x = τ 2 x) ∧ ∀ x, x / 8 ≠ i → τ1 3 x = τ 3 x ∧ τ1 4 x = τ 4 x
theorem tput_ok {τ : Tg} {i k m : Nat} {o : Nat → Nat} (hk8 : k < 8) (hm : m ≤ k) (holt : ∀ q, q < k → o q < k) (hinj : ∀ q q', q < k → q' < k → o q = o q' → q = q') (h : LLo τ i k o) : LLo (tput τ i k m o) i (k + 1) (insF o k m) ∧ TSame τ (tput τ i k m o) i := by
  unfold tput
  generalize hB : (if m = 0 then none else some (8 * i + o (m - 1)) : Option Nat) = B
  generalize hA : (if m < k then some (8 * i + o m) else none : Option Nat) = A
  by_cases hmk : m = k <;> by_cases hm0 : m = 0
  · rw [if_pos hmk, if_pos hm0]
    refine ⟨LLo_ins hm h ?_ ?_ ?_ ?_ ?_ ?_, ⟨fun x => ?_, fun x hx => ?_, fun x hx => ?_⟩⟩
    · rw [if_pos hm0, tup_ne _ (by omega), tup_self]
    · rw [if_pos hmk, tup_self]
    · rw [hB, tup_ne _ (by omega), tup_ne _ (by omega), tup_ne _ (by omega), tup_self]
    · rw [hA, tup_ne _ (by omega), tup_ne _ (by omega), tup_self]
    · intro q hq; omega
    · intro q hq; omega
    · repeat (rw [tup_ne _ (by omega)])
    · refine ⟨?_, ?_⟩ <;> repeat (rw [tup_ne _ (by omega)])
    · refine ⟨?_, ?_⟩ <;> repeat (rw [tup_ne _ (by omega)])
  · have hl := holt (m - 1) (by omega)
    rw [if_pos hmk, if_neg hm0]
    refine ⟨LLo_ins hm h ?_ ?_ ?_ ?_ ?_ ?_, ⟨fun x => ?_, fun x hx => ?_, fun x hx => ?_⟩⟩
    · rw [if_neg hm0]; repeat (rw [tup_ne _ (by omega)])
    · rw [if_pos hmk, tup_self]
    · rw [hB, tup_ne _ (by omega), tup_ne _ (by omega), tup_ne _ (by omega), tup_self]
    · rw [hA, tup_ne _ (by omega), tup_ne _ (by omega), tup_self]
    · intro q hq
      have := holt q hq
      rw [if_neg (by omega)]; repeat (rw [tup_ne _ (by omega)])
    · intro q hq
      have := holt q hq
      by_cases hq1 : q + 1 = m
      · rw [if_pos hq1, tup_ne _ (by omega), show q = m - 1 by omega, tup_self]
      · rw [if_neg hq1, tup_ne _ (by omega), tup_ne _ (fun hz => hq1 (by have := hinj q (m - 1) hq (by omega) (by omega); omega))]; repeat (rw [tup_ne _ (by omega)])
    · repeat (rw [tup_ne _ (by omega)])
    · refine ⟨?_, ?_⟩ <;> repeat (rw [tup_ne _ (by omega)])
    · refine ⟨?_, ?_⟩ <;> repeat (rw [tup_ne _ (by omega)])
  · have hl := holt m (by omega)
    rw [if_neg hmk, if_pos hm0]
    refine ⟨LLo_ins hm h ?_ ?_ ?_ ?_ ?_ ?_, ⟨fun x => ?_, fun x hx => ?_, fun x hx => ?_⟩⟩
    · rw [if_pos hm0, tup_ne _ (by omega), tup_self]
    · rw [if_neg hmk]; repeat (rw [tup_ne _ (by omega)])
    · rw [hB, tup_ne _ (by omega), tup_ne _ (by omega), tup_ne _ (by omega), tup_self]
    · rw [hA, tup_ne _ (by omega), tup_ne _ (by omega), tup_self]
    · intro q hq
      have := holt q hq
      by_cases hq1 : q = m
      · rw [if_pos hq1, hq1, tup_self]
      · rw [if_neg hq1, tup_ne _ (fun hz => hq1 (hinj q m hq (by omega) (by omega)))]; repeat (rw [tup_ne _ (by omega)])
    · intro q hq
      have := holt q hq
      rw [if_neg (by omega)]; repeat (rw [tup_ne _ (by omega)])
    · repeat (rw [tup_ne _ (by omega)])
    · refine ⟨?_, ?_⟩ <;> repeat (rw [tup_ne _ (by omega)])
    · refine ⟨?_, ?_⟩ <;> repeat (rw [tup_ne _ (by omega)])
  · have hl := holt m (by omega)
    have hl2 := holt (m - 1) (by omega)
    rw [if_neg hmk, if_neg hm0]
    refine ⟨LLo_ins hm h ?_ ?_ ?_ ?_ ?_ ?_, ⟨fun x => ?_, fun x hx => ?_, fun x hx => ?_⟩⟩
    · rw [if_neg hm0]; repeat (rw [tup_ne _ (by omega)])
    · rw [if_neg hmk]; repeat (rw [tup_ne _ (by omega)])
    · rw [hB, tup_ne _ (by omega), tup_ne _ (by omega), tup_ne _ (by omega), tup_self]
    · rw [hA, tup_ne _ (by omega), tup_ne _ (by omega), tup_self]
    · intro q hq
      have := holt q hq
      by_cases hq1 : q = m
      · rw [if_pos hq1, hq1, tup_self]
      · rw [if_neg hq1, tup_ne _ (fun hz => hq1 (hinj q m hq (by omega) (by omega)))]; repeat (rw [tup_ne _ (by omega)])
    · intro q hq
      have := holt q hq
      by_cases hq1 : q + 1 = m
      · rw [if_pos hq1, tup_ne _ (by omega), show q = m - 1 by omega, tup_self]
      · rw [if_neg hq1, tup_ne _ (by omega), tup_ne _ (fun hz => hq1 (by have := hinj q (m - 1) hq (by omega) (by omega); omega))]; repeat (rw [tup_ne _ (by omega)])
    · repeat (rw [tup_ne _ (by omega)])
    · refine ⟨?_, ?_⟩ <;> repeat (rw [tup_ne _ (by omega)])
    · refine ⟨?_, ?_⟩ <;> repeat (rw [tup_ne _ (by omega)])
theorem ipl_congr {yr yr' o : Nat → Nat} {y : Nat} : ∀ {a n : Nat}, a ≤ n → (∀ q, q < n → yr q = yr' q) → (∀ q, q < n → o q < n) → ipl yr o y a = ipl yr' o y a
  | 0, _, _, _, _ => rfl
  | a + 1, n, ha, h, ho => by
    rw [ipl, ipl, h _ (ho a (by omega)), ipl_congr (by omega) h ho]
theorem od_congr {yr yr' : Nat → Nat} : ∀ {n : Nat}, (∀ q, q < n → yr q = yr' q) → od yr n = od yr' n
  | 0, _ => rfl
  | n + 1, h => by
    have h1 := od_congr (yr := yr) (yr' := yr') (n := n) (fun q hq => h q (by omega))
    rw [od, od, h1, h n (by omega), ipl_congr (Nat.le_refl n) (fun q hq => h q (by omega)) (fun q hq => od_lt hq)]

set_option maxHeartbeats 4000000 in
set_option maxRecDepth 100000 in
theorem c_X3_putInOrder (l : Launch) (D : xD) (sa : Nat → Nat) (xa : xA) (G0 : xG) (σ : Sg) (τ : Tg) (hg : Gd σ) (i k : Nat) (hi : i < σ 12 0) (hk : σ 11 i = k + 1) (hLo : LLo τ i k (od (yrs σ i) k)) : xCv l yX3_putInOrder wsX3_putInOrder ({ frames := 10, cells := 0, slots := 0, locals := 200 } : Room) D sa xa (xGs G0 D xa σ τ) [.ref (xa 13 i), .ref (xa 15 (8 * i + k))] (fun u => ∃ τ1 : Tg, u = (xa, xGs G0 D xa σ τ1) ∧ LLo τ1 i (k + 1) (ordr σ i) ∧ TSame τ τ1 i) 0 0 := by
  have hB := hg.1
  have h5 := hg.2.1.1
  have h7 := hg.2.1.2.1
  have h12 := hg.2.1.2.2.1
  have hy0 := hg.2.1.2.2.2.1
  have hy1 := hg.2.1.2.2.2.2
  have hm := hg.hm
  have hs8 := hg.hs8
  intro sz
  refine Met.ofW (cc := cX3_putInOrder) (maxL := 4) (ret := none) (by decide +kernel) rfl ?_
  intro p e s m args below meth c s₁ B hml hv
  obtain ⟨rfl, hsz, hv2⟩ := hv
  subst hsz
  have hx := B.exec
  have hb := B.bytes
  have hr := B.returns
  have hts := atoms_spec (ws := wsX3_putInOrder) B.pre
  have hown : s.vm.findClass RX3 = some m.cls := findClass_of_methodNamed B.named
  have hlocks := B.notSynchronized
  have hin3 : ∀ w ∈ wsX30, w ∈ wsX3_putInOrder := by decide +kernel
  have hin2 : ∀ w ∈ wsX20, w ∈ wsX3_putInOrder := by decide +kernel
  have hW := xW.start (s := s) ⟨rfl, hv2⟩
  clear hv2
  generalize xAw xa (xGs G0 D xa σ τ) s.heap.size = A at hW ⊢
  have hl := lv_entry ([.ref (xa 13 i), .ref (xa 15 (8 * i + k))]) (n := 4) (Nat.le_of_ble_eq_true rfl)
  rw [lg_entry_eq]
  generalize (lg_sl ([.ref (xa 13 i), .ref (xa 15 (8 * i + k))]) ++ List.replicate (4 - (lg_sl ([.ref (xa 13 i), .ref (xa 15 (8 * i + k))])).length) Slot.unset).toArray = ls at hl ⊢
  have hl : lv_has ls 4 [(0, .ref (xa 13 i)), (1, .ref (xa 15 (8 * i + k)))] := hl
  have h8 := hs8 i
  have hkS : k < σ 11 i := by omega
  have hτ2 : τ 2 i = (if 0 < k then some (8 * i + od (yrs σ i) k (k - 1)) else none) := by
    rw [hLo.2.1]
    by_cases h0 : k = 0
    · rw [if_pos h0, if_neg (by omega)]
    · rw [if_neg h0, if_pos (by omega)]
  refine lv_aload_n hx hb dX3_putInOrder_0 rfl (lv_at hl 0 rfl) ?_
  refine x_get hx hb hts hin3 hown hW 13 i (xg_t G0 D xa σ τ (i := i) (by omega)) rfl 5 (by decide) (hts (.fieldLink RX3 35 "Restitutory$Thing" "last" "LRestitutory$Station;") (by decide +kernel)) rfl (v := va_rf ((if 0 < k then some (8 * i + od (yrs σ i) k (k - 1)) else none).map (xa 15))) (by show some (va_rf ((τ 2 _).map (xa 15))) = _; rw [hτ2]) dX3_putInOrder_1 ?_
  refine x_astore_n (lv' := [(2, va_rf ((if 0 < k then some (8 * i + od (yrs σ i) k (k - 1)) else none).map (xa 15))), (0, .ref (xa 13 i)), (1, .ref (xa 15 (8 * i + k)))]) hx hb dX3_putInOrder_4 rfl hl (by decide) rfl (fun ls hl => ?_)
  have hl : lv_has ls 4 [(0, .ref (xa 13 i)), (1, .ref (xa 15 (8 * i + k))), (2, va_rf ((if 0 < k then some (8 * i + od (yrs σ i) k (k - 1)) else none).map (xa 15)))] := lv_sub hl [1, 2, 0] rfl
  refine x_loop (X := Nat) (I := fun n xv H locs ls => n = xv ∧ xW D sa A s xa (xGs G0 D xa σ τ) H locs ∧ lv_has ls 4 [(0, .ref (xa 13 i)), (1, .ref (xa 15 (8 * i + k))), (2, va_rf ((if 0 < xv then some (8 * i + od (yrs σ i) k (xv - 1)) else none).map (xa 15)))] ∧ (ipl (yrs σ i) (od (yrs σ i) k) (yrs σ i k) k = ipl (yrs σ i) (od (yrs σ i) k) (yrs σ i k) xv) ∧ (xv ≤ k)) (hd := 5) ?_ (n := _) (x := (k)) ⟨rfl, hW, hl, rfl, by (try dsimp only); omega⟩
  rintro n m H locs ls ⟨hn, hW, hl, hip, hm1⟩ ih5
  try dsimp only at hn hW hl hip hm1
  refine x_aload_n (r := (if 0 < m then some (8 * i + od (yrs σ i) k (m - 1)) else none).map (xa 15)) hx hb dX3_putInOrder_5 rfl (lv_at hl 2 rfl) ?_
  refine x_ifnull (r := (if 0 < m then some (8 * i + od (yrs σ i) k (m - 1)) else none).map (xa 15)) (tgt := 28) hx hb dX3_putInOrder_6 (by decide) (fun c_6 => ?_) (fun a_6 c_6 => ?_)
  · -- ifnull taken
    have hm0 : m = 0 := by
      rcases Nat.eq_zero_or_pos m with h0 | h0
      · exact h0
      · rw [if_pos h0] at c_6; simp at c_6
    rw [if_neg (by omega)] at hl
    have hl : lv_has ls 4 [(0, .ref (xa 13 i)), (1, .ref (xa 15 (8 * i + k))), (2, .null)] := hl
    have hpl := ipl_end hip (Or.inl hm0)
    clear ih5
    by_cases hmk : m < k
    ·
      have hoM : od (yrs σ i) k m < σ 11 i := by have := od_lt (yr := yrs σ i) (n := k) (q := m) hmk; omega
      have hτA : τ 1 i = some (8 * i + od (yrs σ i) k m) := by rw [hLo.1, if_neg (by omega), hm0]
      refine lv_aload_nN hx hb dX3_putInOrder_28 rfl (lv_at hl 2 rfl) ?_
      refine lv_ifnonnullN hx hb dX3_putInOrder_29 ?_
      refine lv_aload_n hx hb dX3_putInOrder_32 rfl (lv_at hl 0 rfl) ?_
      refine x_get hx hb hts hin3 hown hW 13 i (xg_t G0 D xa σ τ (i := i) (by omega)) rfl 4 (by decide) (hts (.fieldLink RX3 49 "Restitutory$Thing" "first" "LRestitutory$Station;") (by decide +kernel)) rfl (v := .ref (xa 15 (8 * i + od (yrs σ i) k m))) (by show some (va_rf ((τ 1 _).map (xa 15))) = _; rw [hτA]; rfl) dX3_putInOrder_33 ?_
      refine lv_goto (tgt := 43) hx hb dX3_putInOrder_36 (by decide) ?_
      refine lv_astore_n (lv' := [(3, .ref (xa 15 (8 * i + od (yrs σ i) k m))), (0, .ref (xa 13 i)), (1, .ref (xa 15 (8 * i + k))), (2, .null)]) hx hb dX3_putInOrder_43 rfl hl (by decide) rfl (fun ls hl => ?_)
      have hl : lv_has ls 4 [(0, .ref (xa 13 i)), (1, .ref (xa 15 (8 * i + k))), (2, .null), (3, .ref (xa 15 (8 * i + od (yrs σ i) k m)))] := lv_sub hl [1, 2, 3, 0] rfl
      refine lv_aload_n hx hb dX3_putInOrder_44 rfl (lv_at hl 1 rfl) ?_
      refine lv_aload_nN hx hb dX3_putInOrder_45 rfl (lv_at hl 2 rfl) ?_
      refine x_put (ty := .object "Restitutory$Station") (v := .null) hx hb hts hin2 tyX2 tyX2_ok nmX2 hown hW 15 (8 * i + k) (fs := sfs xa σ τ (8 * i + k)) (xg_s G0 D xa σ τ (i := 8 * i + k) (lvS_of hi (by first | exact hkS | exact hoA | exact hoM) h8)) rfl 7 (by decide) (hts (.fieldLink RX3 46 "Restitutory$Station" "ahead" "LRestitutory$Station;") (by decide +kernel)) rfl rfl (by decide +kernel) rfl rfl (Nat.le_of_ble_eq_true rfl) dX3_putInOrder_46 fun H locs hW => ?_
      have hW := hW.eqG (xf_ahead G0 D xa (σ := σ) (τ := τ) (i := 8 * i + k) (v := none) (lvS_of hi (by first | exact hkS | exact hoA | exact hoM) h8)).symm
      refine lv_aload_n hx hb dX3_putInOrder_49 rfl (lv_at hl 1 rfl) ?_
      refine lv_aload_n hx hb dX3_putInOrder_50 rfl (lv_at hl 3 rfl) ?_
      refine x_put (ty := .object "Restitutory$Station") (v := .ref (xa 15 (8 * i + od (yrs σ i) k m))) hx hb hts hin2 tyX2 tyX2_ok nmX2 hown hW 15 (8 * i + k) (fs := sfs xa σ (tup τ 3 (8 * i + k) (none)) (8 * i + k)) (xg_s G0 D xa σ (tup τ 3 (8 * i + k) (none)) (i := 8 * i + k) (lvS_of hi (by first | exact hkS | exact hoA | exact hoM) h8)) rfl 8 (by decide) (hts (.fieldLink RX3 52 "Restitutory$Station" "next" "LRestitutory$Station;") (by decide +kernel)) rfl rfl (by decide +kernel) rfl rfl (Nat.le_of_ble_eq_true rfl) dX3_putInOrder_51 fun H locs hW => ?_
      have hW := hW.eqG (xf_next G0 D xa (σ := σ) (τ := (tup τ 3 (8 * i + k) (none))) (i := 8 * i + k) (v := some ((8 * i + od (yrs σ i) k m))) (lvS_of hi (by first | exact hkS | exact hoA | exact hoM) h8)).symm
      refine lv_aload_nN hx hb dX3_putInOrder_54 rfl (lv_at hl 2 rfl) ?_
      refine lv_ifnonnullN hx hb dX3_putInOrder_55 ?_
      refine lv_aload_n hx hb dX3_putInOrder_58 rfl (lv_at hl 0 rfl) ?_
      refine lv_aload_n hx hb dX3_putInOrder_59 rfl (lv_at hl 1 rfl) ?_
      refine x_put (ty := .object "Restitutory$Station") (v := .ref (xa 15 (8 * i + k))) hx hb hts hin3 tyX3 tyX3_ok nmX3 hown hW 13 (i) (fs := tfs xa σ (tup (tup τ 3 (8 * i + k) (none)) 4 (8 * i + k) (some ((8 * i + od (yrs σ i) k m)))) (i)) (xg_t G0 D xa σ (tup (tup τ 3 (8 * i + k) (none)) 4 (8 * i + k) (some ((8 * i + od (yrs σ i) k m)))) (i := i) (by omega)) rfl 4 (by decide) (hts (.fieldLink RX3 49 "Restitutory$Thing" "first" "LRestitutory$Station;") (by decide +kernel)) rfl rfl (by decide +kernel) rfl rfl (Nat.le_of_ble_eq_true rfl) dX3_putInOrder_60 fun H locs hW => ?_
      have hW := hW.eqG (xf_first G0 D xa (σ := σ) (τ := (tup (tup τ 3 (8 * i + k) (none)) 4 (8 * i + k) (some ((8 * i + od (yrs σ i) k m))))) (i := i) (v := some ((8 * i + k))) (by omega)).symm
      refine lv_goto (tgt := 71) hx hb dX3_putInOrder_63 (by decide) ?_
      refine lv_aload_n hx hb dX3_putInOrder_71 rfl (lv_at hl 3 rfl) ?_
      refine lv_ifnonnull (tgt := 83) hx hb dX3_putInOrder_72 (by decide) ?_
      refine lv_aload_n hx hb dX3_putInOrder_83 rfl (lv_at hl 3 rfl) ?_
      refine lv_aload_n hx hb dX3_putInOrder_84 rfl (lv_at hl 1 rfl) ?_
      refine x_put (ty := .object "Restitutory$Station") (v := .ref (xa 15 (8 * i + k))) hx hb hts hin2 tyX2 tyX2_ok nmX2 hown hW 15 (8 * i + od (yrs σ i) k m) (fs := sfs xa σ (tup (tup (tup τ 3 (8 * i + k) (none)) 4 (8 * i + k) (some ((8 * i + od (yrs σ i) k m)))) 1 i (some ((8 * i + k)))) (8 * i + od (yrs σ i) k m)) (xg_s G0 D xa σ (tup (tup (tup τ 3 (8 * i + k) (none)) 4 (8 * i + k) (some ((8 * i + od (yrs σ i) k m)))) 1 i (some ((8 * i + k)))) (i := 8 * i + od (yrs σ i) k m) (lvS_of hi (by first | exact hkS | exact hoA | exact hoM) h8)) rfl 7 (by decide) (hts (.fieldLink RX3 46 "Restitutory$Station" "ahead" "LRestitutory$Station;") (by decide +kernel)) rfl rfl (by decide +kernel) rfl rfl (Nat.le_of_ble_eq_true rfl) dX3_putInOrder_85 fun H locs hW => ?_
      have hW := hW.eqG (xf_ahead G0 D xa (σ := σ) (τ := (tup (tup (tup τ 3 (8 * i + k) (none)) 4 (8 * i + k) (some ((8 * i + od (yrs σ i) k m)))) 1 i (some ((8 * i + k))))) (i := 8 * i + od (yrs σ i) k m) (v := some ((8 * i + k))) (lvS_of hi (by first | exact hkS | exact hoA | exact hoM) h8)).symm
      exact xe_v hx hb hr hlocks hW ⟨tput τ i k m (od (yrs σ i) k), by rw [show tput τ i k m (od (yrs σ i) k) = tup (tup (tup (tup τ 3 (8 * i + k) (none)) 4 (8 * i + k) (some ((8 * i + od (yrs σ i) k m)))) 1 i (some ((8 * i + k)))) 3 (8 * i + od (yrs σ i) k m) (some ((8 * i + k))) by unfold tput; simp only [if_pos (show m = 0 from hm0), if_neg (show ¬ m = k by omega), if_pos hmk]], by rw [show ordr σ i = insF (od (yrs σ i) k) k m by unfold ordr; rw [hk, od, hpl]]; exact (tput_ok (by omega) hm1 (fun q hq => od_lt hq) (fun q q2 h1 h2 h3 => od_inj h1 h2 h3) hLo).1, (tput_ok (by omega) hm1 (fun q hq => od_lt hq) (fun q q2 h1 h2 h3 => od_inj h1 h2 h3) hLo).2⟩ (Nat.le_of_ble_eq_true rfl) (Nat.le_of_ble_eq_true rfl) dX3_putInOrder_88
    ·
      have hτA : τ 1 i = none := by rw [hLo.1, if_pos (by omega)]
      refine lv_aload_nN hx hb dX3_putInOrder_28 rfl (lv_at hl 2 rfl) ?_
      refine lv_ifnonnullN hx hb dX3_putInOrder_29 ?_
      refine lv_aload_n hx hb dX3_putInOrder_32 rfl (lv_at hl 0 rfl) ?_
      refine x_get hx hb hts hin3 hown hW 13 i (xg_t G0 D xa σ τ (i := i) (by omega)) rfl 4 (by decide) (hts (.fieldLink RX3 49 "Restitutory$Thing" "first" "LRestitutory$Station;") (by decide +kernel)) rfl (v := .null) (by show some (va_rf ((τ 1 _).map (xa 15))) = _; rw [hτA]; rfl) dX3_putInOrder_33 ?_
      refine lv_goto (tgt := 43) hx hb dX3_putInOrder_36 (by decide) ?_
      refine lv_astore_nN (lv' := [(3, .null), (0, .ref (xa 13 i)), (1, .ref (xa 15 (8 * i + k))), (2, .null)]) hx hb dX3_putInOrder_43 rfl hl (by decide) rfl (fun ls hl => ?_)
      have hl : lv_has ls 4 [(0, .ref (xa 13 i)), (1, .ref (xa 15 (8 * i + k))), (2, .null), (3, .null)] := lv_sub hl [1, 2, 3, 0] rfl
      refine lv_aload_n hx hb dX3_putInOrder_44 rfl (lv_at hl 1 rfl) ?_
      refine lv_aload_nN hx hb dX3_putInOrder_45 rfl (lv_at hl 2 rfl) ?_
      refine x_put (ty := .object "Restitutory$Station") (v := .null) hx hb hts hin2 tyX2 tyX2_ok nmX2 hown hW 15 (8 * i + k) (fs := sfs xa σ τ (8 * i + k)) (xg_s G0 D xa σ τ (i := 8 * i + k) (lvS_of hi (by first | exact hkS | exact hoA | exact hoM) h8)) rfl 7 (by decide) (hts (.fieldLink RX3 46 "Restitutory$Station" "ahead" "LRestitutory$Station;") (by decide +kernel)) rfl rfl (by decide +kernel) rfl rfl (Nat.le_of_ble_eq_true rfl) dX3_putInOrder_46 fun H locs hW => ?_
      have hW := hW.eqG (xf_ahead G0 D xa (σ := σ) (τ := τ) (i := 8 * i + k) (v := none) (lvS_of hi (by first | exact hkS | exact hoA | exact hoM) h8)).symm
      refine lv_aload_n hx hb dX3_putInOrder_49 rfl (lv_at hl 1 rfl) ?_
      refine lv_aload_nN hx hb dX3_putInOrder_50 rfl (lv_at hl 3 rfl) ?_
      refine x_put (ty := .object "Restitutory$Station") (v := .null) hx hb hts hin2 tyX2 tyX2_ok nmX2 hown hW 15 (8 * i + k) (fs := sfs xa σ (tup τ 3 (8 * i + k) (none)) (8 * i + k)) (xg_s G0 D xa σ (tup τ 3 (8 * i + k) (none)) (i := 8 * i + k) (lvS_of hi (by first | exact hkS | exact hoA | exact hoM) h8)) rfl 8 (by decide) (hts (.fieldLink RX3 52 "Restitutory$Station" "next" "LRestitutory$Station;") (by decide +kernel)) rfl rfl (by decide +kernel) rfl rfl (Nat.le_of_ble_eq_true rfl) dX3_putInOrder_51 fun H locs hW => ?_
      have hW := hW.eqG (xf_next G0 D xa (σ := σ) (τ := (tup τ 3 (8 * i + k) (none))) (i := 8 * i + k) (v := none) (lvS_of hi (by first | exact hkS | exact hoA | exact hoM) h8)).symm
      refine lv_aload_nN hx hb dX3_putInOrder_54 rfl (lv_at hl 2 rfl) ?_
      refine lv_ifnonnullN hx hb dX3_putInOrder_55 ?_
      refine lv_aload_n hx hb dX3_putInOrder_58 rfl (lv_at hl 0 rfl) ?_
      refine lv_aload_n hx hb dX3_putInOrder_59 rfl (lv_at hl 1 rfl) ?_
      refine x_put (ty := .object "Restitutory$Station") (v := .ref (xa 15 (8 * i + k))) hx hb hts hin3 tyX3 tyX3_ok nmX3 hown hW 13 (i) (fs := tfs xa σ (tup (tup τ 3 (8 * i + k) (none)) 4 (8 * i + k) (none)) (i)) (xg_t G0 D xa σ (tup (tup τ 3 (8 * i + k) (none)) 4 (8 * i + k) (none)) (i := i) (by omega)) rfl 4 (by decide) (hts (.fieldLink RX3 49 "Restitutory$Thing" "first" "LRestitutory$Station;") (by decide +kernel)) rfl rfl (by decide +kernel) rfl rfl (Nat.le_of_ble_eq_true rfl) dX3_putInOrder_60 fun H locs hW => ?_
      have hW := hW.eqG (xf_first G0 D xa (σ := σ) (τ := (tup (tup τ 3 (8 * i + k) (none)) 4 (8 * i + k) (none))) (i := i) (v := some ((8 * i + k))) (by omega)).symm
      refine lv_goto (tgt := 71) hx hb dX3_putInOrder_63 (by decide) ?_
      refine lv_aload_nN hx hb dX3_putInOrder_71 rfl (lv_at hl 3 rfl) ?_
      refine lv_ifnonnullN hx hb dX3_putInOrder_72 ?_
      refine lv_aload_n hx hb dX3_putInOrder_75 rfl (lv_at hl 0 rfl) ?_
      refine lv_aload_n hx hb dX3_putInOrder_76 rfl (lv_at hl 1 rfl) ?_
      refine x_put (ty := .object "Restitutory$Station") (v := .ref (xa 15 (8 * i + k))) hx hb hts hin3 tyX3 tyX3_ok nmX3 hown hW 13 (i) (fs := tfs xa σ (tup (tup (tup τ 3 (8 * i + k) (none)) 4 (8 * i + k) (none)) 1 i (some ((8 * i + k)))) (i)) (xg_t G0 D xa σ (tup (tup (tup τ 3 (8 * i + k) (none)) 4 (8 * i + k) (none)) 1 i (some ((8 * i + k)))) (i := i) (by omega)) rfl 5 (by decide) (hts (.fieldLink RX3 35 "Restitutory$Thing" "last" "LRestitutory$Station;") (by decide +kernel)) rfl rfl (by decide +kernel) rfl rfl (Nat.le_of_ble_eq_true rfl) dX3_putInOrder_77 fun H locs hW => ?_
      have hW := hW.eqG (xf_last G0 D xa (σ := σ) (τ := (tup (tup (tup τ 3 (8 * i + k) (none)) 4 (8 * i + k) (none)) 1 i (some ((8 * i + k))))) (i := i) (v := some ((8 * i + k))) (by omega)).symm
      refine lv_goto (tgt := 88) hx hb dX3_putInOrder_80 (by decide) ?_
      exact xe_v hx hb hr hlocks hW ⟨tput τ i k m (od (yrs σ i) k), by rw [show tput τ i k m (od (yrs σ i) k) = tup (tup (tup (tup τ 3 (8 * i + k) (none)) 4 (8 * i + k) (none)) 1 i (some ((8 * i + k)))) 2 i (some ((8 * i + k))) by unfold tput; simp only [if_pos (show m = 0 from hm0), if_pos (show m = k by omega), if_neg hmk]], by rw [show ordr σ i = insF (od (yrs σ i) k) k m by unfold ordr; rw [hk, od, hpl]]; exact (tput_ok (by omega) hm1 (fun q hq => od_lt hq) (fun q q2 h1 h2 h3 => od_inj h1 h2 h3) hLo).1, (tput_ok (by omega) hm1 (fun q hq => od_lt hq) (fun q q2 h1 h2 h3 => od_inj h1 h2 h3) hLo).2⟩ (Nat.le_of_ble_eq_true rfl) (Nat.le_of_ble_eq_true rfl) dX3_putInOrder_88
  · -- ifnull not
    have hm0 : 0 < m := by
      rcases Nat.eq_zero_or_pos m with h0 | h0
      · rw [if_neg (by omega)] at c_6; simp at c_6
      · exact h0
    rw [if_pos hm0] at hl
    have hl : lv_has ls 4 [(0, .ref (xa 13 i)), (1, .ref (xa 15 (8 * i + k))), (2, .ref (xa 15 (8 * i + od (yrs σ i) k (m - 1))))] := hl
    have hoA : od (yrs σ i) k (m - 1) < σ 11 i := by have := od_lt (yr := yrs σ i) (n := k) (q := m - 1) (by omega); omega
    have hnA := hLo.2.2 (m - 1) (by omega)
    have hτ3 : τ 3 (8 * i + od (yrs σ i) k (m - 1)) = (if 0 < m - 1 then some (8 * i + od (yrs σ i) k (m - 1 - 1)) else none) := by
      rw [hnA.1]
      by_cases h0 : m - 1 = 0
      · rw [if_pos h0, if_neg (by omega)]
      · rw [if_neg h0, if_pos (by omega)]
    refine lv_aload_n hx hb dX3_putInOrder_9 rfl (lv_at hl 2 rfl) ?_
    refine x_get hx hb hts hin2 hown hW 15 (8 * i + od (yrs σ i) k (m - 1)) (xg_s G0 D xa σ τ (i := 8 * i + od (yrs σ i) k (m - 1)) (lvS_of hi (by first | exact hkS | exact hoA | exact hoM) h8)) rfl 4 (by decide) (hts (.fieldLink RX3 43 "Restitutory$Station" "year" "I") (by decide +kernel)) rfl (v := .int (nI (σ 16 (8 * i + od (yrs σ i) k (m - 1))))) (rfl) dX3_putInOrder_10 ?_
    have b_10 := hB 16 (8 * i + od (yrs σ i) k (m - 1))
    refine lv_aload_n hx hb dX3_putInOrder_13 rfl (lv_at hl 1 rfl) ?_
    refine x_get hx hb hts hin2 hown hW 15 (8 * i + k) (xg_s G0 D xa σ τ (i := 8 * i + k) (lvS_of hi (by first | exact hkS | exact hoA | exact hoM) h8)) rfl 4 (by decide) (hts (.fieldLink RX3 43 "Restitutory$Station" "year" "I") (by decide +kernel)) rfl (v := .int (nI (σ 16 (8 * i + k)))) (rfl) dX3_putInOrder_14 ?_
    have b_14 := hB 16 (8 * i + k)
    refine lv_icmp_le (tgt := 28) hx hb dX3_putInOrder_17 (by decide) (fun c_17 => ?_) (fun c_17 => ?_)
    · -- le taken
      have c_17 := Int32.le_iff_toInt_le.mp c_17
      rw [nI_toInt (n := σ 16 (8 * i + od (yrs σ i) k (m - 1))) (by omega)] at c_17
      rw [nI_toInt (n := σ 16 (8 * i + k)) (by omega)] at c_17
      have hpl := ipl_end hip (Or.inr (by show ¬ σ 16 (8 * i + k) < σ 16 (8 * i + od (yrs σ i) k (m - 1)); omega))
      clear ih5
      by_cases hmk : m < k
      ·
        have hoM : od (yrs σ i) k m < σ 11 i := by have := od_lt (yr := yrs σ i) (n := k) (q := m) hmk; omega
        have hτA : τ 4 (8 * i + od (yrs σ i) k (m - 1)) = some (8 * i + od (yrs σ i) k m) := by rw [hnA.2, if_pos (by omega), show m - 1 + 1 = m by omega]
        refine lv_aload_n hx hb dX3_putInOrder_28 rfl (lv_at hl 2 rfl) ?_
        refine lv_ifnonnull (tgt := 39) hx hb dX3_putInOrder_29 (by decide) ?_
        refine lv_aload_n hx hb dX3_putInOrder_39 rfl (lv_at hl 2 rfl) ?_
        refine x_get hx hb hts hin2 hown hW 15 (8 * i + od (yrs σ i) k (m - 1)) (xg_s G0 D xa σ τ (i := 8 * i + od (yrs σ i) k (m - 1)) (lvS_of hi (by first | exact hkS | exact hoA | exact hoM) h8)) rfl 8 (by decide) (hts (.fieldLink RX3 52 "Restitutory$Station" "next" "LRestitutory$Station;") (by decide +kernel)) rfl (v := .ref (xa 15 (8 * i + od (yrs σ i) k m))) (by show some (va_rf ((τ 4 _).map (xa 15))) = _; rw [hτA]; rfl) dX3_putInOrder_40 ?_
        refine lv_astore_n (lv' := [(3, .ref (xa 15 (8 * i + od (yrs σ i) k m))), (0, .ref (xa 13 i)), (1, .ref (xa 15 (8 * i + k))), (2, .ref (xa 15 (8 * i + od (yrs σ i) k (m - 1))))]) hx hb dX3_putInOrder_43 rfl hl (by decide) rfl (fun ls hl => ?_)
        have hl : lv_has ls 4 [(0, .ref (xa 13 i)), (1, .ref (xa 15 (8 * i + k))), (2, .ref (xa 15 (8 * i + od (yrs σ i) k (m - 1)))), (3, .ref (xa 15 (8 * i + od (yrs σ i) k m)))] := lv_sub hl [1, 2, 3, 0] rfl
        refine lv_aload_n hx hb dX3_putInOrder_44 rfl (lv_at hl 1 rfl) ?_
        refine lv_aload_n hx hb dX3_putInOrder_45 rfl (lv_at hl 2 rfl) ?_
        refine x_put (ty := .object "Restitutory$Station") (v := .ref (xa 15 (8 * i + od (yrs σ i) k (m - 1)))) hx hb hts hin2 tyX2 tyX2_ok nmX2 hown hW 15 (8 * i + k) (fs := sfs xa σ τ (8 * i + k)) (xg_s G0 D xa σ τ (i := 8 * i + k) (lvS_of hi (by first | exact hkS | exact hoA | exact hoM) h8)) rfl 7 (by decide) (hts (.fieldLink RX3 46 "Restitutory$Station" "ahead" "LRestitutory$Station;") (by decide +kernel)) rfl rfl (by decide +kernel) rfl rfl (Nat.le_of_ble_eq_true rfl) dX3_putInOrder_46 fun H locs hW => ?_
        have hW := hW.eqG (xf_ahead G0 D xa (σ := σ) (τ := τ) (i := 8 * i + k) (v := some ((8 * i + od (yrs σ i) k (m - 1)))) (lvS_of hi (by first | exact hkS | exact hoA | exact hoM) h8)).symm
        refine lv_aload_n hx hb dX3_putInOrder_49 rfl (lv_at hl 1 rfl) ?_
        refine lv_aload_n hx hb dX3_putInOrder_50 rfl (lv_at hl 3 rfl) ?_
        refine x_put (ty := .object "Restitutory$Station") (v := .ref (xa 15 (8 * i + od (yrs σ i) k m))) hx hb hts hin2 tyX2 tyX2_ok nmX2 hown hW 15 (8 * i + k) (fs := sfs xa σ (tup τ 3 (8 * i + k) (some ((8 * i + od (yrs σ i) k (m - 1))))) (8 * i + k)) (xg_s G0 D xa σ (tup τ 3 (8 * i + k) (some ((8 * i + od (yrs σ i) k (m - 1))))) (i := 8 * i + k) (lvS_of hi (by first | exact hkS | exact hoA | exact hoM) h8)) rfl 8 (by decide) (hts (.fieldLink RX3 52 "Restitutory$Station" "next" "LRestitutory$Station;") (by decide +kernel)) rfl rfl (by decide +kernel) rfl rfl (Nat.le_of_ble_eq_true rfl) dX3_putInOrder_51 fun H locs hW => ?_
        have hW := hW.eqG (xf_next G0 D xa (σ := σ) (τ := (tup τ 3 (8 * i + k) (some ((8 * i + od (yrs σ i) k (m - 1)))))) (i := 8 * i + k) (v := some ((8 * i + od (yrs σ i) k m))) (lvS_of hi (by first | exact hkS | exact hoA | exact hoM) h8)).symm
        refine lv_aload_n hx hb dX3_putInOrder_54 rfl (lv_at hl 2 rfl) ?_
        refine lv_ifnonnull (tgt := 66) hx hb dX3_putInOrder_55 (by decide) ?_
        refine lv_aload_n hx hb dX3_putInOrder_66 rfl (lv_at hl 2 rfl) ?_
        refine lv_aload_n hx hb dX3_putInOrder_67 rfl (lv_at hl 1 rfl) ?_
        refine x_put (ty := .object "Restitutory$Station") (v := .ref (xa 15 (8 * i + k))) hx hb hts hin2 tyX2 tyX2_ok nmX2 hown hW 15 (8 * i + od (yrs σ i) k (m - 1)) (fs := sfs xa σ (tup (tup τ 3 (8 * i + k) (some ((8 * i + od (yrs σ i) k (m - 1))))) 4 (8 * i + k) (some ((8 * i + od (yrs σ i) k m)))) (8 * i + od (yrs σ i) k (m - 1))) (xg_s G0 D xa σ (tup (tup τ 3 (8 * i + k) (some ((8 * i + od (yrs σ i) k (m - 1))))) 4 (8 * i + k) (some ((8 * i + od (yrs σ i) k m)))) (i := 8 * i + od (yrs σ i) k (m - 1)) (lvS_of hi (by first | exact hkS | exact hoA | exact hoM) h8)) rfl 8 (by decide) (hts (.fieldLink RX3 52 "Restitutory$Station" "next" "LRestitutory$Station;") (by decide +kernel)) rfl rfl (by decide +kernel) rfl rfl (Nat.le_of_ble_eq_true rfl) dX3_putInOrder_68 fun H locs hW => ?_
        have hW := hW.eqG (xf_next G0 D xa (σ := σ) (τ := (tup (tup τ 3 (8 * i + k) (some ((8 * i + od (yrs σ i) k (m - 1))))) 4 (8 * i + k) (some ((8 * i + od (yrs σ i) k m))))) (i := 8 * i + od (yrs σ i) k (m - 1)) (v := some ((8 * i + k))) (lvS_of hi (by first | exact hkS | exact hoA | exact hoM) h8)).symm
        refine lv_aload_n hx hb dX3_putInOrder_71 rfl (lv_at hl 3 rfl) ?_
        refine lv_ifnonnull (tgt := 83) hx hb dX3_putInOrder_72 (by decide) ?_
        refine lv_aload_n hx hb dX3_putInOrder_83 rfl (lv_at hl 3 rfl) ?_
        refine lv_aload_n hx hb dX3_putInOrder_84 rfl (lv_at hl 1 rfl) ?_
        refine x_put (ty := .object "Restitutory$Station") (v := .ref (xa 15 (8 * i + k))) hx hb hts hin2 tyX2 tyX2_ok nmX2 hown hW 15 (8 * i + od (yrs σ i) k m) (fs := sfs xa σ (tup (tup (tup τ 3 (8 * i + k) (some ((8 * i + od (yrs σ i) k (m - 1))))) 4 (8 * i + k) (some ((8 * i + od (yrs σ i) k m)))) 4 (8 * i + od (yrs σ i) k (m - 1)) (some ((8 * i + k)))) (8 * i + od (yrs σ i) k m)) (xg_s G0 D xa σ (tup (tup (tup τ 3 (8 * i + k) (some ((8 * i + od (yrs σ i) k (m - 1))))) 4 (8 * i + k) (some ((8 * i + od (yrs σ i) k m)))) 4 (8 * i + od (yrs σ i) k (m - 1)) (some ((8 * i + k)))) (i := 8 * i + od (yrs σ i) k m) (lvS_of hi (by first | exact hkS | exact hoA | exact hoM) h8)) rfl 7 (by decide) (hts (.fieldLink RX3 46 "Restitutory$Station" "ahead" "LRestitutory$Station;") (by decide +kernel)) rfl rfl (by decide +kernel) rfl rfl (Nat.le_of_ble_eq_true rfl) dX3_putInOrder_85 fun H locs hW => ?_
        have hW := hW.eqG (xf_ahead G0 D xa (σ := σ) (τ := (tup (tup (tup τ 3 (8 * i + k) (some ((8 * i + od (yrs σ i) k (m - 1))))) 4 (8 * i + k) (some ((8 * i + od (yrs σ i) k m)))) 4 (8 * i + od (yrs σ i) k (m - 1)) (some ((8 * i + k))))) (i := 8 * i + od (yrs σ i) k m) (v := some ((8 * i + k))) (lvS_of hi (by first | exact hkS | exact hoA | exact hoM) h8)).symm
        exact xe_v hx hb hr hlocks hW ⟨tput τ i k m (od (yrs σ i) k), by rw [show tput τ i k m (od (yrs σ i) k) = tup (tup (tup (tup τ 3 (8 * i + k) (some ((8 * i + od (yrs σ i) k (m - 1))))) 4 (8 * i + k) (some ((8 * i + od (yrs σ i) k m)))) 4 (8 * i + od (yrs σ i) k (m - 1)) (some ((8 * i + k)))) 3 (8 * i + od (yrs σ i) k m) (some ((8 * i + k))) by unfold tput; simp only [if_neg (show ¬ m = 0 by omega), if_neg (show ¬ m = k by omega), if_pos hmk]], by rw [show ordr σ i = insF (od (yrs σ i) k) k m by unfold ordr; rw [hk, od, hpl]]; exact (tput_ok (by omega) hm1 (fun q hq => od_lt hq) (fun q q2 h1 h2 h3 => od_inj h1 h2 h3) hLo).1, (tput_ok (by omega) hm1 (fun q hq => od_lt hq) (fun q q2 h1 h2 h3 => od_inj h1 h2 h3) hLo).2⟩ (Nat.le_of_ble_eq_true rfl) (Nat.le_of_ble_eq_true rfl) dX3_putInOrder_88
      ·
        have hτA : τ 4 (8 * i + od (yrs σ i) k (m - 1)) = none := by rw [hnA.2, if_neg (by omega)]
        refine lv_aload_n hx hb dX3_putInOrder_28 rfl (lv_at hl 2 rfl) ?_
        refine lv_ifnonnull (tgt := 39) hx hb dX3_putInOrder_29 (by decide) ?_
        refine lv_aload_n hx hb dX3_putInOrder_39 rfl (lv_at hl 2 rfl) ?_
        refine x_get hx hb hts hin2 hown hW 15 (8 * i + od (yrs σ i) k (m - 1)) (xg_s G0 D xa σ τ (i := 8 * i + od (yrs σ i) k (m - 1)) (lvS_of hi (by first | exact hkS | exact hoA | exact hoM) h8)) rfl 8 (by decide) (hts (.fieldLink RX3 52 "Restitutory$Station" "next" "LRestitutory$Station;") (by decide +kernel)) rfl (v := .null) (by show some (va_rf ((τ 4 _).map (xa 15))) = _; rw [hτA]; rfl) dX3_putInOrder_40 ?_
        refine lv_astore_nN (lv' := [(3, .null), (0, .ref (xa 13 i)), (1, .ref (xa 15 (8 * i + k))), (2, .ref (xa 15 (8 * i + od (yrs σ i) k (m - 1))))]) hx hb dX3_putInOrder_43 rfl hl (by decide) rfl (fun ls hl => ?_)
        have hl : lv_has ls 4 [(0, .ref (xa 13 i)), (1, .ref (xa 15 (8 * i + k))), (2, .ref (xa 15 (8 * i + od (yrs σ i) k (m - 1)))), (3, .null)] := lv_sub hl [1, 2, 3, 0] rfl
        refine lv_aload_n hx hb dX3_putInOrder_44 rfl (lv_at hl 1 rfl) ?_
        refine lv_aload_n hx hb dX3_putInOrder_45 rfl (lv_at hl 2 rfl) ?_
        refine x_put (ty := .object "Restitutory$Station") (v := .ref (xa 15 (8 * i + od (yrs σ i) k (m - 1)))) hx hb hts hin2 tyX2 tyX2_ok nmX2 hown hW 15 (8 * i + k) (fs := sfs xa σ τ (8 * i + k)) (xg_s G0 D xa σ τ (i := 8 * i + k) (lvS_of hi (by first | exact hkS | exact hoA | exact hoM) h8)) rfl 7 (by decide) (hts (.fieldLink RX3 46 "Restitutory$Station" "ahead" "LRestitutory$Station;") (by decide +kernel)) rfl rfl (by decide +kernel) rfl rfl (Nat.le_of_ble_eq_true rfl) dX3_putInOrder_46 fun H locs hW => ?_
        have hW := hW.eqG (xf_ahead G0 D xa (σ := σ) (τ := τ) (i := 8 * i + k) (v := some ((8 * i + od (yrs σ i) k (m - 1)))) (lvS_of hi (by first | exact hkS | exact hoA | exact hoM) h8)).symm
        refine lv_aload_n hx hb dX3_putInOrder_49 rfl (lv_at hl 1 rfl) ?_
        refine lv_aload_nN hx hb dX3_putInOrder_50 rfl (lv_at hl 3 rfl) ?_
        refine x_put (ty := .object "Restitutory$Station") (v := .null) hx hb hts hin2 tyX2 tyX2_ok nmX2 hown hW 15 (8 * i + k) (fs := sfs xa σ (tup τ 3 (8 * i + k) (some ((8 * i + od (yrs σ i) k (m - 1))))) (8 * i + k)) (xg_s G0 D xa σ (tup τ 3 (8 * i + k) (some ((8 * i + od (yrs σ i) k (m - 1))))) (i := 8 * i + k) (lvS_of hi (by first | exact hkS | exact hoA | exact hoM) h8)) rfl 8 (by decide) (hts (.fieldLink RX3 52 "Restitutory$Station" "next" "LRestitutory$Station;") (by decide +kernel)) rfl rfl (by decide +kernel) rfl rfl (Nat.le_of_ble_eq_true rfl) dX3_putInOrder_51 fun H locs hW => ?_
        have hW := hW.eqG (xf_next G0 D xa (σ := σ) (τ := (tup τ 3 (8 * i + k) (some ((8 * i + od (yrs σ i) k (m - 1)))))) (i := 8 * i + k) (v := none) (lvS_of hi (by first | exact hkS | exact hoA | exact hoM) h8)).symm
        refine lv_aload_n hx hb dX3_putInOrder_54 rfl (lv_at hl 2 rfl) ?_
        refine lv_ifnonnull (tgt := 66) hx hb dX3_putInOrder_55 (by decide) ?_
        refine lv_aload_n hx hb dX3_putInOrder_66 rfl (lv_at hl 2 rfl) ?_
        refine lv_aload_n hx hb dX3_putInOrder_67 rfl (lv_at hl 1 rfl) ?_
        refine x_put (ty := .object "Restitutory$Station") (v := .ref (xa 15 (8 * i + k))) hx hb hts hin2 tyX2 tyX2_ok nmX2 hown hW 15 (8 * i + od (yrs σ i) k (m - 1)) (fs := sfs xa σ (tup (tup τ 3 (8 * i + k) (some ((8 * i + od (yrs σ i) k (m - 1))))) 4 (8 * i + k) (none)) (8 * i + od (yrs σ i) k (m - 1))) (xg_s G0 D xa σ (tup (tup τ 3 (8 * i + k) (some ((8 * i + od (yrs σ i) k (m - 1))))) 4 (8 * i + k) (none)) (i := 8 * i + od (yrs σ i) k (m - 1)) (lvS_of hi (by first | exact hkS | exact hoA | exact hoM) h8)) rfl 8 (by decide) (hts (.fieldLink RX3 52 "Restitutory$Station" "next" "LRestitutory$Station;") (by decide +kernel)) rfl rfl (by decide +kernel) rfl rfl (Nat.le_of_ble_eq_true rfl) dX3_putInOrder_68 fun H locs hW => ?_
        have hW := hW.eqG (xf_next G0 D xa (σ := σ) (τ := (tup (tup τ 3 (8 * i + k) (some ((8 * i + od (yrs σ i) k (m - 1))))) 4 (8 * i + k) (none))) (i := 8 * i + od (yrs σ i) k (m - 1)) (v := some ((8 * i + k))) (lvS_of hi (by first | exact hkS | exact hoA | exact hoM) h8)).symm
        refine lv_aload_nN hx hb dX3_putInOrder_71 rfl (lv_at hl 3 rfl) ?_
        refine lv_ifnonnullN hx hb dX3_putInOrder_72 ?_
        refine lv_aload_n hx hb dX3_putInOrder_75 rfl (lv_at hl 0 rfl) ?_
        refine lv_aload_n hx hb dX3_putInOrder_76 rfl (lv_at hl 1 rfl) ?_
        refine x_put (ty := .object "Restitutory$Station") (v := .ref (xa 15 (8 * i + k))) hx hb hts hin3 tyX3 tyX3_ok nmX3 hown hW 13 (i) (fs := tfs xa σ (tup (tup (tup τ 3 (8 * i + k) (some ((8 * i + od (yrs σ i) k (m - 1))))) 4 (8 * i + k) (none)) 4 (8 * i + od (yrs σ i) k (m - 1)) (some ((8 * i + k)))) (i)) (xg_t G0 D xa σ (tup (tup (tup τ 3 (8 * i + k) (some ((8 * i + od (yrs σ i) k (m - 1))))) 4 (8 * i + k) (none)) 4 (8 * i + od (yrs σ i) k (m - 1)) (some ((8 * i + k)))) (i := i) (by omega)) rfl 5 (by decide) (hts (.fieldLink RX3 35 "Restitutory$Thing" "last" "LRestitutory$Station;") (by decide +kernel)) rfl rfl (by decide +kernel) rfl rfl (Nat.le_of_ble_eq_true rfl) dX3_putInOrder_77 fun H locs hW => ?_
        have hW := hW.eqG (xf_last G0 D xa (σ := σ) (τ := (tup (tup (tup τ 3 (8 * i + k) (some ((8 * i + od (yrs σ i) k (m - 1))))) 4 (8 * i + k) (none)) 4 (8 * i + od (yrs σ i) k (m - 1)) (some ((8 * i + k))))) (i := i) (v := some ((8 * i + k))) (by omega)).symm
        refine lv_goto (tgt := 88) hx hb dX3_putInOrder_80 (by decide) ?_
        exact xe_v hx hb hr hlocks hW ⟨tput τ i k m (od (yrs σ i) k), by rw [show tput τ i k m (od (yrs σ i) k) = tup (tup (tup (tup τ 3 (8 * i + k) (some ((8 * i + od (yrs σ i) k (m - 1))))) 4 (8 * i + k) (none)) 4 (8 * i + od (yrs σ i) k (m - 1)) (some ((8 * i + k)))) 2 i (some ((8 * i + k))) by unfold tput; simp only [if_neg (show ¬ m = 0 by omega), if_pos (show m = k by omega), if_neg hmk]], by rw [show ordr σ i = insF (od (yrs σ i) k) k m by unfold ordr; rw [hk, od, hpl]]; exact (tput_ok (by omega) hm1 (fun q hq => od_lt hq) (fun q q2 h1 h2 h3 => od_inj h1 h2 h3) hLo).1, (tput_ok (by omega) hm1 (fun q hq => od_lt hq) (fun q q2 h1 h2 h3 => od_inj h1 h2 h3) hLo).2⟩ (Nat.le_of_ble_eq_true rfl) (Nat.le_of_ble_eq_true rfl) dX3_putInOrder_88
    · -- le not
      have c_17 : ¬ ((nI (σ 16 (8 * i + od (yrs σ i) k (m - 1)))).toInt ≤ (nI (σ 16 (8 * i + k))).toInt) := fun h => c_17 (Int32.le_iff_toInt_le.mpr h)
      rw [nI_toInt (n := σ 16 (8 * i + od (yrs σ i) k (m - 1))) (by omega)] at c_17
      rw [nI_toInt (n := σ 16 (8 * i + k)) (by omega)] at c_17
      refine lv_aload_n hx hb dX3_putInOrder_20 rfl (lv_at hl 2 rfl) ?_
      refine x_get hx hb hts hin2 hown hW 15 (8 * i + od (yrs σ i) k (m - 1)) (xg_s G0 D xa σ τ (i := 8 * i + od (yrs σ i) k (m - 1)) (lvS_of hi (by first | exact hkS | exact hoA | exact hoM) h8)) rfl 7 (by decide) (hts (.fieldLink RX3 46 "Restitutory$Station" "ahead" "LRestitutory$Station;") (by decide +kernel)) rfl (v := va_rf ((if 0 < m - 1 then some (8 * i + od (yrs σ i) k (m - 1 - 1)) else none).map (xa 15))) (by show some (va_rf ((τ 3 _).map (xa 15))) = _; rw [hτ3]) dX3_putInOrder_21 ?_
      refine x_astore_n (lv' := [(2, va_rf ((if 0 < m - 1 then some (8 * i + od (yrs σ i) k (m - 1 - 1)) else none).map (xa 15))), (0, .ref (xa 13 i)), (1, .ref (xa 15 (8 * i + k)))]) hx hb dX3_putInOrder_24 rfl hl (by decide) rfl (fun ls hl => ?_)
      have hl : lv_has ls 4 [(0, .ref (xa 13 i)), (1, .ref (xa 15 (8 * i + k))), (2, va_rf ((if 0 < m - 1 then some (8 * i + od (yrs σ i) k (m - 1 - 1)) else none).map (xa 15)))] := lv_sub hl [1, 2, 0] rfl
      refine lv_goto (tgt := 5) hx hb dX3_putInOrder_25 (by decide) ?_
      exact ih5 ((m - 1)) (m - 1) _ _ _ (by omega) ⟨rfl, hW, hl, ipl_go hip hm0 (by show σ 16 (8 * i + k) < σ 16 (8 * i + od (yrs σ i) k (m - 1)); omega), by (try dsimp only); omega⟩
