theorem va_rf_nar (C : String) (r : Option Nat) : narrow (.object C) (va_rf r) = va_rf r := by cases r <;> rfl
theorem va_rf_fit (C : String) (r : Option Nat) : fits (.object C) (va_rf r) = true := by cases r <;> rfl
theorem LL_row {σ : Sg} {τ τ1 : Tg} (h : ∀ r, r ≠ 0 → τ1 r = τ r) (hL : LL σ τ) : LL σ τ1 := by
  unfold LL
  rw [h 1 (by decide), h 2 (by decide), h 3 (by decide), h 4 (by decide)]
  exact hL
theorem ttl_br {σ : Sg} {i : Nat} {o : Nat → Nat} {n q : Nat} (hq : 1 ≤ q) (h : ∀ t, brO σ i o n q t) : ttl σ i o n q (σ 13 (8 * i + o q)) := by
  obtain ⟨q0, rfl⟩ : ∃ q0, q = q0 + 1 := ⟨q - 1, by omega⟩
  obtain ⟨t0, ht0⟩ := ttl_ex σ i o n q0
  exact ⟨t0, ht0, Or.inl ⟨h t0, rfl⟩⟩
theorem ends_step {σ : Sg} {i : Nat} {o : Nat → Nat} {n m x x' y : Nat} (hm : 1 ≤ m) (hmn : m ≤ n) (h1 : (brO σ i o n (m - 1) x ∧ x' = σ 13 (8 * i + o (m - 1))) ∨ (¬ brO σ i o n (m - 1) x ∧ x' = x)) (h2 : ends σ i o n (n - m) x' y) : ends σ i o n (n - (m - 1)) x y := by
  rw [show n - (m - 1) = (n - m) + 1 by omega]
  refine ⟨x', ?_, h2⟩
  rw [show n - 1 - (n - m) = m - 1 by omega]
  exact h1
theorem tup_row {τ τ1 : Tg} {p : Nat} {v : Option Nat} (h : ∀ r, r ≠ 0 → τ1 r = τ r) : ∀ r, r ≠ 0 → tup τ1 0 p v r = τ r := fun r hr => (funext fun z => tup_ne τ1 (fun h2 => hr h2.1)).trans (h r hr)
theorem TE_up {σ : Sg} {τ1 : Tg} {p y : Nat} (h : TE σ τ1) (hy : y < σ 5 0) : TE σ (tup τ1 0 p (some y)) := by
  intro a b ha hb
  by_cases hq : a = p
  · rw [hq, tup_self] at hb; cases hb; exact hy
  · rw [tup_ne τ1 (fun h2 => hq h2.2)] at hb; exact h a b ha hb
/-- what a call leaves of the class: new addresses but of what stood, a new state -/
def xPo (D : xD) (xa : xA) (G0 : xG) (σ' : Sg) (P : Prop) (u : xA × xG) : Prop := ∃ (xa1 : xA) (τ1 : Tg), (∀ k i, (k = 0 ∨ 16 ≤ k) → xa1 k i = xa k i) ∧ u = (xa1, xGs G0 D xa1 σ' τ1) ∧ LL σ' τ1 ∧ TE σ' τ1 ∧ P

set_option maxHeartbeats 4000000 in
set_option maxRecDepth 100000 in
theorem c_X4_titleFromLast (l : Launch) (D : xD) (sa : Nat → Nat) (xa : xA) (G0 : xG) (σ : Sg) (τ : Tg) (hg : Gd σ) (hL : LL σ τ) (hT : TE σ τ) (i : Nat) (hi : i < σ 12 0) : xCq l yX4_titleFromLast wsX4_titleFromLast ({ frames := 18, cells := 0, slots := 0, locals := 600 } : Room) D sa xa (xGs G0 D xa σ τ) [.ref (xa 0 0), .ref (xa 13 i)] (fun r u => ∃ τ1 : Tg, u = (xa, xGs G0 D xa σ τ1) ∧ LL σ τ1 ∧ TE σ τ1 ∧ ((σ 11 i = 0 ∧ r = none) ∨ (0 < σ 11 i ∧ ∃ t, ttl σ i (ordr σ i) (σ 11 i) (σ 11 i - 1) t ∧ r = some (xa 10 t)))) 0 0 := by
  have hB := hg.1
  have h5 := hg.2.1.1
  have h7 := hg.2.1.2.1
  have h12 := hg.2.1.2.2.1
  have hy0 := hg.2.1.2.2.2.1
  have hy1 := hg.2.1.2.2.2.2
  have hm := hg.hm
  have hs8 := hg.hs8
  intro sz
  refine Met.ofW (cc := cX4_titleFromLast) (maxL := 4) (ret := (some (.object "Restitutory$Person"))) (by decide +kernel) rfl ?_
  intro p e s m args below meth c s₁ B hml hv
  obtain ⟨rfl, hsz, hv2⟩ := hv
  subst hsz
  have hx := B.exec
  have hb := B.bytes
  have hr := B.returns
  have hts := atoms_spec (ws := wsX4_titleFromLast) B.pre
  have hown : s.vm.findClass RX4 = some m.cls := findClass_of_methodNamed B.named
  have hlocks := B.notSynchronized
  have hin3 : ∀ w ∈ wsX30, w ∈ wsX4_titleFromLast := by decide +kernel
  have hin2 : ∀ w ∈ wsX20, w ∈ wsX4_titleFromLast := by decide +kernel
  have hin1 : ∀ w ∈ wsX10, w ∈ wsX4_titleFromLast := by decide +kernel
  have hin4 : ∀ w ∈ wsX40, w ∈ wsX4_titleFromLast := by decide +kernel
  have hin0 : ∀ w ∈ wsX00, w ∈ wsX4_titleFromLast := by decide +kernel
  have hW := xW.start (s := s) ⟨rfl, hv2⟩
  clear hv2
  generalize xAw xa (xGs G0 D xa σ τ) s.heap.size = A at hW ⊢
  have hl := lv_entry ([.ref (xa 0 0), .ref (xa 13 i)]) (n := 4) (Nat.le_of_ble_eq_true rfl)
  rw [lg_entry_eq]
  generalize (lg_sl ([.ref (xa 0 0), .ref (xa 13 i)]) ++ List.replicate (4 - (lg_sl ([.ref (xa 0 0), .ref (xa 13 i)])).length) Slot.unset).toArray = ls at hl ⊢
  have hl : lv_has ls 4 [(0, .ref (xa 0 0)), (1, .ref (xa 13 i))] := hl
  have hli := hL i hi
  have h8 := hs8 i
  have hst := fun k hk => (hg.2.2.2.2.1 i hi).2.2 k hk
  have hTE := hT
  by_cases hn : σ 11 i = 0
  ·
    have hτ2 := hli.2.1
    rw [if_pos hn] at hτ2
    refine lv_aload_n hx hb dX4_titleFromLast_0 rfl (lv_at hl 1 rfl) ?_
    refine x_get hx hb hts hin3 hown hW 13 i (xg_t G0 D xa σ τ (i := i) (by omega)) rfl 5 (by decide) (hts (.fieldLink RX4 230 "Restitutory$Thing" "last" "LRestitutory$Station;") (by decide +kernel)) rfl (v := .null) (by show some (va_rf ((τ 2 _).map (xa 15))) = _; rw [hτ2]; rfl) dX4_titleFromLast_1 ?_
    refine lv_astore_nN (lv' := [(2, .null), (0, .ref (xa 0 0)), (1, .ref (xa 13 i))]) hx hb dX4_titleFromLast_4 rfl hl (by decide) rfl (fun ls hl => ?_)
    have hl : lv_has ls 4 [(0, .ref (xa 0 0)), (1, .ref (xa 13 i)), (2, .null)] := lv_sub hl [1, 2, 0] rfl
    refine lv_aload_nN hx hb dX4_titleFromLast_5 rfl (lv_at hl 2 rfl) ?_
    refine lv_ifnullN (tgt := 28) hx hb dX4_titleFromLast_6 (by decide) ?_
    refine lv_aload_n hx hb dX4_titleFromLast_28 rfl (lv_at hl 1 rfl) ?_
    refine x_get hx hb hts hin3 hown hW 13 i (xg_t G0 D xa σ τ (i := i) (by omega)) rfl 5 (by decide) (hts (.fieldLink RX4 230 "Restitutory$Thing" "last" "LRestitutory$Station;") (by decide +kernel)) rfl (v := .null) (by show some (va_rf ((τ 2 _).map (xa 15))) = _; rw [hτ2]; rfl) dX4_titleFromLast_29 ?_
    refine lv_astore_nN (lv' := [(2, .null), (0, .ref (xa 0 0)), (1, .ref (xa 13 i))]) hx hb dX4_titleFromLast_32 rfl hl (by decide) rfl (fun ls hl => ?_)
    have hl : lv_has ls 4 [(0, .ref (xa 0 0)), (1, .ref (xa 13 i)), (2, .null)] := lv_sub hl [1, 2, 0] rfl
    refine lv_aload_nN hx hb dX4_titleFromLast_33 rfl (lv_at hl 2 rfl) ?_
    refine lv_ifnullN (tgt := 110) hx hb dX4_titleFromLast_34 (by decide) ?_
    refine lv_null hx hb dX4_titleFromLast_110 ?_
    exact xe_q (r := none) hx hb hr hlocks hW ⟨τ, rfl, hL, hTE, Or.inl ⟨hn, rfl⟩⟩ (Nat.le_refl _) (Nat.le_refl _) dX4_titleFromLast_111
  ·
    have hτ2 := hli.2.1
    rw [if_neg hn] at hτ2
    have hsl := hst _ (ordr_lt (σ := σ) (i := i) (q := σ 11 i - 1) (by omega))
    refine lv_aload_n hx hb dX4_titleFromLast_0 rfl (lv_at hl 1 rfl) ?_
    refine x_get hx hb hts hin3 hown hW 13 i (xg_t G0 D xa σ τ (i := i) (by omega)) rfl 5 (by decide) (hts (.fieldLink RX4 230 "Restitutory$Thing" "last" "LRestitutory$Station;") (by decide +kernel)) rfl (v := .ref (xa 15 (8 * i + ordr σ i (σ 11 i - 1)))) (by show some (va_rf ((τ 2 _).map (xa 15))) = _; rw [hτ2]; rfl) dX4_titleFromLast_1 ?_
    refine lv_astore_n (lv' := [(2, .ref (xa 15 (8 * i + ordr σ i (σ 11 i - 1)))), (0, .ref (xa 0 0)), (1, .ref (xa 13 i))]) hx hb dX4_titleFromLast_4 rfl hl (by decide) rfl (fun ls hl => ?_)
    have hl : lv_has ls 4 [(0, .ref (xa 0 0)), (1, .ref (xa 13 i)), (2, .ref (xa 15 (8 * i + ordr σ i (σ 11 i - 1))))] := lv_sub hl [1, 2, 0] rfl
    have hPM : (.ref (xa 15 (8 * i + ordr σ i (σ 11 i - 1))) : Value) = va_rf ((if 0 < σ 11 i then some (8 * i + ordr σ i (σ 11 i - 1)) else none).map (xa 15)) := by rw [if_pos (by omega)]; rfl
    rw [hPM] at hl
    refine x_loop (X := Tg × Nat) (I := fun n xv H locs ls => n = xv.2 ∧ xW D sa A s xa (xGs G0 D xa σ (xv.1)) H locs ∧ lv_has ls 4 [(0, .ref (xa 0 0)), (1, .ref (xa 13 i)), (2, va_rf ((if 0 < xv.2 then some (8 * i + ordr σ i (xv.2 - 1)) else none).map (xa 15)))] ∧ (∀ r, r ≠ 0 → xv.1 r = τ r) ∧ (∀ q, xv.2 ≤ q → q < σ 11 i → xv.1 0 (σ 13 (8 * i + ordr σ i (q))) = some (σ 13 (8 * i + ordr σ i (q)))) ∧ (TE σ xv.1) ∧ (xv.2 ≤ σ 11 i)) (hd := 5) ?_ (n := _) (x := (τ, σ 11 i)) ⟨rfl, hW, hl, fun r _ => rfl, (fun q h1 h2 => by omega), hTE, by (try dsimp only); omega⟩
    rintro n ⟨t1, m⟩ H locs ls ⟨hn, hW, hl, hrow, hdn, hTE1, hm1⟩ ih5
    try dsimp only at hn hW hl hrow hdn hTE1 hm1
    refine x_aload_n (r := (if 0 < m then some (8 * i + ordr σ i (m - 1)) else none).map (xa 15)) hx hb dX4_titleFromLast_5 rfl (lv_at hl 2 rfl) ?_
    refine x_ifnull (r := (if 0 < m then some (8 * i + ordr σ i (m - 1)) else none).map (xa 15)) (tgt := 28) hx hb dX4_titleFromLast_6 (by decide) (fun c_6 => ?_) (fun a_6 c_6 => ?_)
    · -- ifnull taken
      have hm0 : m = 0 := by
        rcases Nat.eq_zero_or_pos m with h0 | h0
        · exact h0
        · rw [if_pos h0] at c_6; simp at c_6
      subst hm0
      clear ih5
      refine lv_aload_n hx hb dX4_titleFromLast_28 rfl (lv_at hl 1 rfl) ?_
      refine x_get hx hb hts hin3 hown hW 13 i (xg_t G0 D xa σ t1 (i := i) (by omega)) rfl 5 (by decide) (hts (.fieldLink RX4 230 "Restitutory$Thing" "last" "LRestitutory$Station;") (by decide +kernel)) rfl (v := .ref (xa 15 (8 * i + ordr σ i (σ 11 i - 1)))) (by show some (va_rf ((t1 2 _).map (xa 15))) = _; rw [hrow 2 (by decide), hτ2]; rfl) dX4_titleFromLast_29 ?_
      refine lv_astore_n (lv' := [(2, .ref (xa 15 (8 * i + ordr σ i (σ 11 i - 1)))), (0, .ref (xa 0 0)), (1, .ref (xa 13 i))]) hx hb dX4_titleFromLast_32 rfl hl (by decide) rfl (fun ls hl => ?_)
      have hl : lv_has ls 4 [(0, .ref (xa 0 0)), (1, .ref (xa 13 i)), (2, .ref (xa 15 (8 * i + ordr σ i (σ 11 i - 1))))] := lv_sub hl [1, 2, 0] rfl
      refine x_loop (X := Tg × Nat) (I := fun n xv H locs ls => n = xv.2 ∧ xW D sa A s xa (xGs G0 D xa σ (xv.1)) H locs ∧ lv_has ls 4 [(0, .ref (xa 0 0)), (1, .ref (xa 13 i)), (2, .ref (xa 15 (8 * i + ordr σ i (xv.2 - 1))))] ∧ (∀ r, r ≠ 0 → xv.1 r = τ r) ∧ (∀ q, q < σ 11 i → ∃ y, xv.1 0 (σ 13 (8 * i + ordr σ i (q))) = some y ∧ ends σ i (ordr σ i) (σ 11 i) (σ 11 i - xv.2) (σ 13 (8 * i + ordr σ i (q))) y) ∧ (TE σ xv.1) ∧ (xv.2 ≤ σ 11 i) ∧ (1 ≤ xv.2)) (hd := 33) ?_ (n := _) (x := (t1, σ 11 i)) ⟨rfl, hW, hl, hrow, (fun q h1 => ⟨_, hdn q (Nat.zero_le _) h1, by dsimp only; rw [Nat.sub_self]; rfl⟩), hTE1, by (try dsimp only); omega, by (try dsimp only); omega⟩
      rintro n ⟨t2, m⟩ H locs ls ⟨hn, hW, hl, hrow2, hends, hTE2, hm2, hm3⟩ ih33
      try dsimp only at hn hW hl hrow2 hends hTE2 hm2 hm3
      refine lv_aload_n hx hb dX4_titleFromLast_33 rfl (lv_at hl 2 rfl) ?_
      refine lv_ifnull hx hb dX4_titleFromLast_34 ?_
      have sq := hst _ (ordr_lt (σ := σ) (i := i) (q := m - 1) (by omega))
      have hll := hli.2.2 (m - 1) (by omega)
      have hL2 := LL_row hrow2 hL
      obtain ⟨y, hy, hey⟩ := hends (m - 1) (by omega)
      have hyl := hTE2 _ _ sq.1 hy
      by_cases hq0 : m - 1 = 0
      ·
        have hτ3 := hll.1
        rw [if_pos hq0] at hτ3
        have htq : ttl σ i (ordr σ i) (σ 11 i) (m - 1) (σ 13 (8 * i + ordr σ i (m - 1))) := by rw [hq0]; exact rfl
        refine lv_aload_n hx hb dX4_titleFromLast_37 rfl (lv_at hl 2 rfl) ?_
        refine x_get hx hb hts hin2 hown hW 15 (8 * i + ordr σ i (m - 1)) (xg_s G0 D xa σ t2 (i := 8 * i + ordr σ i (m - 1)) (lvS_of (by omega) (ordr_lt (by omega)) (hs8 _))) rfl 7 (by decide) (hts (.fieldLink RX4 210 "Restitutory$Station" "ahead" "LRestitutory$Station;") (by decide +kernel)) rfl (v := .null) (by show some (va_rf ((t2 3 _).map (xa 15))) = _; rw [hrow2 3 (by decide), hτ3]; rfl) dX4_titleFromLast_38 ?_
        refine lv_astore_nN (lv' := [(3, .null), (0, .ref (xa 0 0)), (1, .ref (xa 13 i)), (2, .ref (xa 15 (8 * i + ordr σ i (m - 1))))]) hx hb dX4_titleFromLast_41 rfl hl (by decide) rfl (fun ls hl => ?_)
        have hl : lv_has ls 4 [(0, .ref (xa 0 0)), (1, .ref (xa 13 i)), (2, .ref (xa 15 (8 * i + ordr σ i (m - 1)))), (3, .null)] := lv_sub hl [1, 2, 3, 0] rfl
        refine lv_aload_nN hx hb dX4_titleFromLast_42 rfl (lv_at hl 3 rfl) ?_
        refine lv_ifnullN (tgt := 53) hx hb dX4_titleFromLast_43 (by decide) ?_
        refine lv_aload_n hx hb dX4_titleFromLast_53 rfl (lv_at hl 2 rfl) ?_
        refine x_get hx hb hts hin2 hown hW 15 (8 * i + ordr σ i (m - 1)) (xg_s G0 D xa σ t2 (i := 8 * i + ordr σ i (m - 1)) (lvS_of (by omega) (ordr_lt (by omega)) (hs8 _))) rfl 1 (by decide) (hts (.fieldLink RX4 213 "Restitutory$Station" "party" "LRestitutory$Person;") (by decide +kernel)) rfl (v := .ref (xa 10 (σ 13 (8 * i + ordr σ i (m - 1))))) (rfl) dX4_titleFromLast_54 ?_
        refine x_get hx hb hts hin1 hown hW 10 (σ 13 (8 * i + ordr σ i (m - 1))) (xg_p G0 D xa σ t2 (i := σ 13 (8 * i + ordr σ i (m - 1))) (by omega)) rfl 5 (by decide) (hts (.fieldLink RX4 233 "Restitutory$Person" "titleEndsWith" "LRestitutory$Person;") (by decide +kernel)) rfl (v := .ref (xa 10 y)) (by show some (va_rf ((t2 0 _).map (xa 10))) = _; rw [hy]; rfl) dX4_titleFromLast_57 ?_
        exact xe_q (r := some (xa 10 y)) hx hb hr hlocks hW ⟨t2, rfl, hL2, hTE2, Or.inr ⟨by omega, y, ends_ttl (m := σ 11 i - m) (by omega) (by rw [show σ 11 i - 1 - (σ 11 i - m) = m - 1 by omega]; exact htq) hey, rfl⟩⟩ (Nat.le_refl _) (Nat.le_refl _) dX4_titleFromLast_60
      ·
        have hτ3 := hll.1
        rw [if_neg hq0] at hτ3
        have sa1 := hst _ (ordr_lt (σ := σ) (i := i) (q := m - 1 - 1) (by omega))
        refine lv_aload_n hx hb dX4_titleFromLast_37 rfl (lv_at hl 2 rfl) ?_
        refine x_get hx hb hts hin2 hown hW 15 (8 * i + ordr σ i (m - 1)) (xg_s G0 D xa σ t2 (i := 8 * i + ordr σ i (m - 1)) (lvS_of (by omega) (ordr_lt (by omega)) (hs8 _))) rfl 7 (by decide) (hts (.fieldLink RX4 210 "Restitutory$Station" "ahead" "LRestitutory$Station;") (by decide +kernel)) rfl (v := .ref (xa 15 (8 * i + ordr σ i (m - 1 - 1)))) (by show some (va_rf ((t2 3 _).map (xa 15))) = _; rw [hrow2 3 (by decide), hτ3]; rfl) dX4_titleFromLast_38 ?_
        refine lv_astore_n (lv' := [(3, .ref (xa 15 (8 * i + ordr σ i (m - 1 - 1)))), (0, .ref (xa 0 0)), (1, .ref (xa 13 i)), (2, .ref (xa 15 (8 * i + ordr σ i (m - 1))))]) hx hb dX4_titleFromLast_41 rfl hl (by decide) rfl (fun ls hl => ?_)
        have hl : lv_has ls 4 [(0, .ref (xa 0 0)), (1, .ref (xa 13 i)), (2, .ref (xa 15 (8 * i + ordr σ i (m - 1)))), (3, .ref (xa 15 (8 * i + ordr σ i (m - 1 - 1))))] := lv_sub hl [1, 2, 3, 0] rfl
        refine lv_aload_n hx hb dX4_titleFromLast_42 rfl (lv_at hl 3 rfl) ?_
        refine lv_ifnull hx hb dX4_titleFromLast_43 ?_
        refine lv_aload_n hx hb dX4_titleFromLast_46 rfl (lv_at hl 2 rfl) ?_
        refine x_get hx hb hts hin2 hown hW 15 (8 * i + ordr σ i (m - 1)) (xg_s G0 D xa σ t2 (i := 8 * i + ordr σ i (m - 1)) (lvS_of (by omega) (ordr_lt (by omega)) (hs8 _))) rfl 6 (by decide) (hts (.fieldLink RX4 138 "Restitutory$Station" "settled" "Z") (by decide +kernel)) rfl (v := .int (nI (σ 18 (8 * i + ordr σ i (m - 1))))) (rfl) dX4_titleFromLast_47 ?_
        have b_47 := hB 18 (8 * i + ordr σ i (m - 1))
        refine lv_if_eq (tgt := 61) hx hb dX4_titleFromLast_50 (by decide) (fun c_50 => ?_) (fun c_50 => ?_)
        · -- eq taken
          have c_50 := (x_eqZ (a := σ 18 (8 * i + ordr σ i (m - 1))) (by omega)).mp c_50
          refine lv_aload_n hx hb dX4_titleFromLast_61 rfl (lv_at hl 0 rfl) ?_
          refine lv_aload_n hx hb dX4_titleFromLast_62 rfl (lv_at hl 2 rfl) ?_
          refine xv_i (k := 0) (i := 0) (As := [.ref (xa 15 (8 * i + ordr σ i (m - 1)))]) (rest := []) ⟨hx, hb, hml, hown, hts⟩ (c_X4_takesAway l D sa xa G0 σ t2 hg hL2 i (m - 1) hi (by omega)) (cwV 1 hts gX4_titleFromLast_X4_takesAway rfl rfl rfl (by decide +kernel) ⟨Nat.le_of_ble_eq_true rfl, Nat.le_of_ble_eq_true rfl⟩) hW (xg_x G0 D xa σ t2) rfl rfl rfl rfl hl.1 (Nat.le_of_ble_eq_true rfl) dX4_titleFromLast_63 ⟨Nat.le_of_ble_eq_true rfl, Nat.le_of_ble_eq_true rfl⟩ (fun r_63 xa1 G1 H locs hp hW => ?_)
          obtain ⟨hu, hr_63⟩ := hp
          cases hu
          refine lv_if_eq (tgt := 72) hx hb dX4_titleFromLast_66 (by decide) (fun c_66 => ?_) (fun c_66 => ?_)
          · -- eq taken
            have c_66 := hr_63.f c_66
            refine lv_aload_n hx hb dX4_titleFromLast_72 rfl (lv_at hl 0 rfl) ?_
            refine lv_aload_n hx hb dX4_titleFromLast_73 rfl (lv_at hl 2 rfl) ?_
            refine xv_i (k := 0) (i := 0) (As := [.ref (xa 15 (8 * i + ordr σ i (m - 1)))]) (rest := []) ⟨hx, hb, hml, hown, hts⟩ (c_X4_isKeptInGoodFaith l D sa xa G0 σ t2 hg hL2 i (m - 1) hi (by omega)) (cwV 1 hts gX4_titleFromLast_X4_isKeptInGoodFaith rfl rfl rfl (by decide +kernel) ⟨Nat.le_of_ble_eq_true rfl, Nat.le_of_ble_eq_true rfl⟩) hW (xg_x G0 D xa σ t2) rfl rfl rfl rfl hl.1 (Nat.le_of_ble_eq_true rfl) dX4_titleFromLast_74 ⟨Nat.le_of_ble_eq_true rfl, Nat.le_of_ble_eq_true rfl⟩ (fun r_74 xa1 G1 H locs hp hW => ?_)
            obtain ⟨hu, hr_74⟩ := hp
            cases hu
            refine lv_if_eq (tgt := 88) hx hb dX4_titleFromLast_77 (by decide) (fun c_77 => ?_) (fun c_77 => ?_)
            · -- eq taken
              have c_77 := hr_74.f c_77
              refine lv_aload_n hx hb dX4_titleFromLast_88 rfl (lv_at hl 3 rfl) ?_
              refine x_get hx hb hts hin2 hown hW 15 (8 * i + ordr σ i (m - 1 - 1)) (xg_s G0 D xa σ t2 (i := 8 * i + ordr σ i (m - 1 - 1)) (lvS_of (by omega) (ordr_lt (by omega)) (hs8 _))) rfl 1 (by decide) (hts (.fieldLink RX4 213 "Restitutory$Station" "party" "LRestitutory$Person;") (by decide +kernel)) rfl (v := .ref (xa 10 (σ 13 (8 * i + ordr σ i (m - 1 - 1))))) (rfl) dX4_titleFromLast_89 ?_
              refine lv_aload_n hx hb dX4_titleFromLast_92 rfl (lv_at hl 2 rfl) ?_
              refine x_get hx hb hts hin2 hown hW 15 (8 * i + ordr σ i (m - 1)) (xg_s G0 D xa σ t2 (i := 8 * i + ordr σ i (m - 1)) (lvS_of (by omega) (ordr_lt (by omega)) (hs8 _))) rfl 1 (by decide) (hts (.fieldLink RX4 213 "Restitutory$Station" "party" "LRestitutory$Person;") (by decide +kernel)) rfl (v := .ref (xa 10 (σ 13 (8 * i + ordr σ i (m - 1))))) (rfl) dX4_titleFromLast_93 ?_
              refine x_get hx hb hts hin1 hown hW 10 (σ 13 (8 * i + ordr σ i (m - 1))) (xg_p G0 D xa σ t2 (i := σ 13 (8 * i + ordr σ i (m - 1))) (by omega)) rfl 5 (by decide) (hts (.fieldLink RX4 233 "Restitutory$Person" "titleEndsWith" "LRestitutory$Person;") (by decide +kernel)) rfl (v := .ref (xa 10 y)) (by show some (va_rf ((t2 0 _).map (xa 10))) = _; rw [hy]; rfl) dX4_titleFromLast_96 ?_
              refine x_put (ty := .object "Restitutory$Person") (v := .ref (xa 10 y)) hx hb hts hin1 tyX1 tyX1_ok nmX1 hown hW 10 (σ 13 (8 * i + ordr σ i (m - 1 - 1))) (fs := pfs xa σ t2 (σ 13 (8 * i + ordr σ i (m - 1 - 1)))) (xg_p G0 D xa σ t2 (i := σ 13 (8 * i + ordr σ i (m - 1 - 1))) (by omega)) rfl 5 (by decide) (hts (.fieldLink RX4 233 "Restitutory$Person" "titleEndsWith" "LRestitutory$Person;") (by decide +kernel)) rfl rfl (by decide +kernel) rfl rfl (Nat.le_of_ble_eq_true rfl) dX4_titleFromLast_99 fun H locs hW => ?_
              have hW := hW.eqG (xf_title G0 D xa (σ := σ) (τ := t2) (i := σ 13 (8 * i + ordr σ i (m - 1 - 1))) (v := some (y)) (by omega)).symm
              refine lv_aload_n hx hb dX4_titleFromLast_102 rfl (lv_at hl 2 rfl) ?_
              refine x_get hx hb hts hin2 hown hW 15 (8 * i + ordr σ i (m - 1)) (xg_s G0 D xa σ (tup t2 0 (σ 13 (8 * i + ordr σ i (m - 1 - 1))) (some (y))) (i := 8 * i + ordr σ i (m - 1)) (lvS_of (by omega) (ordr_lt (by omega)) (hs8 _))) rfl 7 (by decide) (hts (.fieldLink RX4 210 "Restitutory$Station" "ahead" "LRestitutory$Station;") (by decide +kernel)) rfl (v := .ref (xa 15 (8 * i + ordr σ i (m - 1 - 1)))) (by show some (va_rf ((t2 3 _).map (xa 15))) = _; rw [hrow2 3 (by decide), hτ3]; rfl) dX4_titleFromLast_103 ?_
              refine lv_astore_n (lv' := [(2, .ref (xa 15 (8 * i + ordr σ i (m - 1 - 1)))), (0, .ref (xa 0 0)), (1, .ref (xa 13 i)), (3, .ref (xa 15 (8 * i + ordr σ i (m - 1 - 1))))]) hx hb dX4_titleFromLast_106 rfl hl (by decide) rfl (fun ls hl => ?_)
              have hl : lv_has ls 4 [(0, .ref (xa 0 0)), (1, .ref (xa 13 i)), (2, .ref (xa 15 (8 * i + ordr σ i (m - 1 - 1)))), (3, .ref (xa 15 (8 * i + ordr σ i (m - 1 - 1))))] := lv_sub hl [1, 2, 0, 3] rfl
              refine lv_goto (tgt := 33) hx hb dX4_titleFromLast_107 (by decide) ?_
              exact ih33 ((m - 1)) (tup t2 0 (σ 13 (8 * i + ordr σ i (m - 1 - 1))) (some (y)), m - 1) _ _ _ (by omega) ⟨rfl, hW, lv_sub hl [0, 1, 2] rfl, tup_row hrow2, (fun q h1 => by try dsimp only; by_cases hz : σ 13 (8 * i + ordr σ i (q)) = σ 13 (8 * i + ordr σ i (m - 1 - 1)); rw [hz, tup_self]; exact ⟨y, rfl, ends_step (by omega) (by omega) (Or.inl ⟨Or.inr ⟨c_66, Or.inl rfl⟩, rfl⟩) hey⟩; rw [tup_ne _ (fun h_ => hz h_.2)]; obtain ⟨y, hy, he⟩ := hends q h1; exact ⟨y, hy, ends_step (by omega) (by omega) (Or.inr ⟨fun hb => hb.elim (fun h1 => by omega) (fun h1 => h1.2.elim hz c_77), rfl⟩) he⟩), TE_up hTE2 hyl, by (try dsimp only); omega, by (try dsimp only); omega⟩
            · -- eq not
              have c_77 := hr_74.t c_77
              have htq := ttl_br (σ := σ) (i := i) (o := ordr σ i) (n := σ 11 i) (q := m - 1) (by omega) (fun t => Or.inr ⟨c_66, Or.inr c_77⟩)
              refine lv_aload_n hx hb dX4_titleFromLast_80 rfl (lv_at hl 2 rfl) ?_
              refine x_get hx hb hts hin2 hown hW 15 (8 * i + ordr σ i (m - 1)) (xg_s G0 D xa σ t2 (i := 8 * i + ordr σ i (m - 1)) (lvS_of (by omega) (ordr_lt (by omega)) (hs8 _))) rfl 1 (by decide) (hts (.fieldLink RX4 213 "Restitutory$Station" "party" "LRestitutory$Person;") (by decide +kernel)) rfl (v := .ref (xa 10 (σ 13 (8 * i + ordr σ i (m - 1))))) (rfl) dX4_titleFromLast_81 ?_
              refine x_get hx hb hts hin1 hown hW 10 (σ 13 (8 * i + ordr σ i (m - 1))) (xg_p G0 D xa σ t2 (i := σ 13 (8 * i + ordr σ i (m - 1))) (by omega)) rfl 5 (by decide) (hts (.fieldLink RX4 233 "Restitutory$Person" "titleEndsWith" "LRestitutory$Person;") (by decide +kernel)) rfl (v := .ref (xa 10 y)) (by show some (va_rf ((t2 0 _).map (xa 10))) = _; rw [hy]; rfl) dX4_titleFromLast_84 ?_
              exact xe_q (r := some (xa 10 y)) hx hb hr hlocks hW ⟨t2, rfl, hL2, hTE2, Or.inr ⟨by omega, y, ends_ttl (m := σ 11 i - m) (by omega) (by rw [show σ 11 i - 1 - (σ 11 i - m) = m - 1 by omega]; exact htq) hey, rfl⟩⟩ (Nat.le_refl _) (Nat.le_refl _) dX4_titleFromLast_87
          · -- eq not
            have c_66 := hr_63.t c_66
            refine lv_goto (tgt := 102) hx hb dX4_titleFromLast_69 (by decide) ?_
            refine lv_aload_n hx hb dX4_titleFromLast_102 rfl (lv_at hl 2 rfl) ?_
            refine x_get hx hb hts hin2 hown hW 15 (8 * i + ordr σ i (m - 1)) (xg_s G0 D xa σ t2 (i := 8 * i + ordr σ i (m - 1)) (lvS_of (by omega) (ordr_lt (by omega)) (hs8 _))) rfl 7 (by decide) (hts (.fieldLink RX4 210 "Restitutory$Station" "ahead" "LRestitutory$Station;") (by decide +kernel)) rfl (v := .ref (xa 15 (8 * i + ordr σ i (m - 1 - 1)))) (by show some (va_rf ((t2 3 _).map (xa 15))) = _; rw [hrow2 3 (by decide), hτ3]; rfl) dX4_titleFromLast_103 ?_
            refine lv_astore_n (lv' := [(2, .ref (xa 15 (8 * i + ordr σ i (m - 1 - 1)))), (0, .ref (xa 0 0)), (1, .ref (xa 13 i)), (3, .ref (xa 15 (8 * i + ordr σ i (m - 1 - 1))))]) hx hb dX4_titleFromLast_106 rfl hl (by decide) rfl (fun ls hl => ?_)
            have hl : lv_has ls 4 [(0, .ref (xa 0 0)), (1, .ref (xa 13 i)), (2, .ref (xa 15 (8 * i + ordr σ i (m - 1 - 1)))), (3, .ref (xa 15 (8 * i + ordr σ i (m - 1 - 1))))] := lv_sub hl [1, 2, 0, 3] rfl
            refine lv_goto (tgt := 33) hx hb dX4_titleFromLast_107 (by decide) ?_
            exact ih33 ((m - 1)) (t2, m - 1) _ _ _ (by omega) ⟨rfl, hW, lv_sub hl [0, 1, 2] rfl, hrow2, (fun q h1 => by try dsimp only; obtain ⟨y, hy, he⟩ := hends q h1; exact ⟨y, hy, ends_step (by omega) (by omega) (Or.inr ⟨fun hb => hb.elim (fun h1 => by omega) (fun h1 => h1.1 c_66), rfl⟩) he⟩), hTE2, by (try dsimp only); omega, by (try dsimp only); omega⟩
        · -- eq not
          have c_50 : ¬ (σ 18 (8 * i + ordr σ i (m - 1)) = 0) := fun h_ => c_50 ((x_eqZ (a := σ 18 (8 * i + ordr σ i (m - 1))) (by omega)).mpr h_)
          have htq := ttl_br (σ := σ) (i := i) (o := ordr σ i) (n := σ 11 i) (q := m - 1) (by omega) (fun t => Or.inl (by omega))
          refine lv_aload_n hx hb dX4_titleFromLast_53 rfl (lv_at hl 2 rfl) ?_
          refine x_get hx hb hts hin2 hown hW 15 (8 * i + ordr σ i (m - 1)) (xg_s G0 D xa σ t2 (i := 8 * i + ordr σ i (m - 1)) (lvS_of (by omega) (ordr_lt (by omega)) (hs8 _))) rfl 1 (by decide) (hts (.fieldLink RX4 213 "Restitutory$Station" "party" "LRestitutory$Person;") (by decide +kernel)) rfl (v := .ref (xa 10 (σ 13 (8 * i + ordr σ i (m - 1))))) (rfl) dX4_titleFromLast_54 ?_
          refine x_get hx hb hts hin1 hown hW 10 (σ 13 (8 * i + ordr σ i (m - 1))) (xg_p G0 D xa σ t2 (i := σ 13 (8 * i + ordr σ i (m - 1))) (by omega)) rfl 5 (by decide) (hts (.fieldLink RX4 233 "Restitutory$Person" "titleEndsWith" "LRestitutory$Person;") (by decide +kernel)) rfl (v := .ref (xa 10 y)) (by show some (va_rf ((t2 0 _).map (xa 10))) = _; rw [hy]; rfl) dX4_titleFromLast_57 ?_
          exact xe_q (r := some (xa 10 y)) hx hb hr hlocks hW ⟨t2, rfl, hL2, hTE2, Or.inr ⟨by omega, y, ends_ttl (m := σ 11 i - m) (by omega) (by rw [show σ 11 i - 1 - (σ 11 i - m) = m - 1 by omega]; exact htq) hey, rfl⟩⟩ (Nat.le_refl _) (Nat.le_refl _) dX4_titleFromLast_60
    · -- ifnull not
      have hm0 : 0 < m := by
        rcases Nat.eq_zero_or_pos m with h0 | h0
        · rw [if_neg (by omega)] at c_6; simp at c_6
        · exact h0
      rw [if_pos hm0] at hl
      have hl : lv_has ls 4 [(0, .ref (xa 0 0)), (1, .ref (xa 13 i)), (2, .ref (xa 15 (8 * i + ordr σ i (m - 1))))] := hl
      have sq := hst _ (ordr_lt (σ := σ) (i := i) (q := m - 1) (by omega))
      have hτ3 : τ 3 (8 * i + ordr σ i (m - 1)) = (if 0 < m - 1 then some (8 * i + ordr σ i (m - 1 - 1)) else none) := by
        rw [(hli.2.2 (m - 1) (by omega)).1]
        by_cases h0 : m - 1 = 0
        · rw [if_pos h0, if_neg (by omega)]
        · rw [if_neg h0, if_pos (by omega)]
      refine lv_aload_n hx hb dX4_titleFromLast_9 rfl (lv_at hl 2 rfl) ?_
      refine x_get hx hb hts hin2 hown hW 15 (8 * i + ordr σ i (m - 1)) (xg_s G0 D xa σ t1 (i := 8 * i + ordr σ i (m - 1)) (lvS_of (by omega) (ordr_lt (by omega)) (hs8 _))) rfl 1 (by decide) (hts (.fieldLink RX4 213 "Restitutory$Station" "party" "LRestitutory$Person;") (by decide +kernel)) rfl (v := .ref (xa 10 (σ 13 (8 * i + ordr σ i (m - 1))))) (rfl) dX4_titleFromLast_10 ?_
      refine lv_aload_n hx hb dX4_titleFromLast_13 rfl (lv_at hl 2 rfl) ?_
      refine x_get hx hb hts hin2 hown hW 15 (8 * i + ordr σ i (m - 1)) (xg_s G0 D xa σ t1 (i := 8 * i + ordr σ i (m - 1)) (lvS_of (by omega) (ordr_lt (by omega)) (hs8 _))) rfl 1 (by decide) (hts (.fieldLink RX4 213 "Restitutory$Station" "party" "LRestitutory$Person;") (by decide +kernel)) rfl (v := .ref (xa 10 (σ 13 (8 * i + ordr σ i (m - 1))))) (rfl) dX4_titleFromLast_14 ?_
      refine x_put (ty := .object "Restitutory$Person") (v := .ref (xa 10 (σ 13 (8 * i + ordr σ i (m - 1))))) hx hb hts hin1 tyX1 tyX1_ok nmX1 hown hW 10 (σ 13 (8 * i + ordr σ i (m - 1))) (fs := pfs xa σ t1 (σ 13 (8 * i + ordr σ i (m - 1)))) (xg_p G0 D xa σ t1 (i := σ 13 (8 * i + ordr σ i (m - 1))) (by omega)) rfl 5 (by decide) (hts (.fieldLink RX4 233 "Restitutory$Person" "titleEndsWith" "LRestitutory$Person;") (by decide +kernel)) rfl rfl (by decide +kernel) rfl rfl (Nat.le_of_ble_eq_true rfl) dX4_titleFromLast_17 fun H locs hW => ?_
      have hW := hW.eqG (xf_title G0 D xa (σ := σ) (τ := t1) (i := σ 13 (8 * i + ordr σ i (m - 1))) (v := some ((σ 13 (8 * i + ordr σ i (m - 1))))) (by omega)).symm
      refine lv_aload_n hx hb dX4_titleFromLast_20 rfl (lv_at hl 2 rfl) ?_
      refine x_get hx hb hts hin2 hown hW 15 (8 * i + ordr σ i (m - 1)) (xg_s G0 D xa σ (tup t1 0 (σ 13 (8 * i + ordr σ i (m - 1))) (some ((σ 13 (8 * i + ordr σ i (m - 1)))))) (i := 8 * i + ordr σ i (m - 1)) (lvS_of (by omega) (ordr_lt (by omega)) (hs8 _))) rfl 7 (by decide) (hts (.fieldLink RX4 210 "Restitutory$Station" "ahead" "LRestitutory$Station;") (by decide +kernel)) rfl (v := va_rf ((if 0 < m - 1 then some (8 * i + ordr σ i (m - 1 - 1)) else none).map (xa 15))) (by show some (va_rf ((t1 3 _).map (xa 15))) = _; rw [hrow 3 (by decide), hτ3]) dX4_titleFromLast_21 ?_
      refine x_astore_n (lv' := [(2, va_rf ((if 0 < m - 1 then some (8 * i + ordr σ i (m - 1 - 1)) else none).map (xa 15))), (0, .ref (xa 0 0)), (1, .ref (xa 13 i))]) hx hb dX4_titleFromLast_24 rfl hl (by decide) rfl (fun ls hl => ?_)
      have hl : lv_has ls 4 [(0, .ref (xa 0 0)), (1, .ref (xa 13 i)), (2, va_rf ((if 0 < m - 1 then some (8 * i + ordr σ i (m - 1 - 1)) else none).map (xa 15)))] := lv_sub hl [1, 2, 0] rfl
      refine lv_goto (tgt := 5) hx hb dX4_titleFromLast_25 (by decide) ?_
      exact ih5 ((m - 1)) (tup t1 0 (σ 13 (8 * i + ordr σ i (m - 1))) (some ((σ 13 (8 * i + ordr σ i (m - 1))))), m - 1) _ _ _ (by omega) ⟨rfl, hW, hl, tup_row hrow, (fun q h1 h2 => by try dsimp only; by_cases hz : σ 13 (8 * i + ordr σ i (q)) = σ 13 (8 * i + ordr σ i (m - 1)); rw [hz, tup_self]; rw [tup_ne _ (fun h_ => hz h_.2)]; refine hdn q (Nat.le_of_not_lt fun h3 => hz ?_) h2; rw [show q = m - 1 by omega]), TE_up hTE1 sq.1, by (try dsimp only); omega⟩

set_option maxHeartbeats 4000000 in
set_option maxRecDepth 100000 in
theorem c_X4_ownerAnew (l : Launch) (hst0 : l.stackTraces = false) (D : xD) (sa : Nat → Nat) (xa : xA) (G0 : xG) (σ : Sg) (τ : Tg) (hg : Gd σ) (hL : LL σ τ) (hT : TE σ τ) (t : Int32) : xXi l yX4_ownerAnew wsX4_ownerAnew ({ frames := 28, cells := 1, slots := 6, locals := 1100 } : Room) D sa xa (xGs G0 D xa σ τ) [.ref (xa 0 0), .int t] (fun r u => (gk (pT σ t) True True) 0 ∧ xPo D xa G0 (σ) (∃ o, r = oi o ∧ own σ (xn t) o) u) (pxk (gk (pT σ t) True True) xIob xIob xIob) 1 6 := by
  have hB := hg.1
  have h5 := hg.2.1.1
  have h7 := hg.2.1.2.1
  have h12 := hg.2.1.2.2.1
  have hy0 := hg.2.1.2.2.2.1
  have hy1 := hg.2.1.2.2.2.2
  have hm := hg.hm
  have hs8 := hg.hs8
  intro sz
  refine vx_ofW (cc := cX4_ownerAnew) (maxL := 2) (ret := (some .int)) (by decide +kernel) rfl ?_
  intro p e s m args below meth c s₁ B hml hout hv
  obtain ⟨rfl, hsz, hv2⟩ := hv
  subst hsz
  have hx := B.exec
  have hb := B.bytes
  have hr := B.returns
  have hts := atoms_spec (ws := wsX4_ownerAnew) B.pre
  have hown : s.vm.findClass RX4 = some m.cls := findClass_of_methodNamed B.named
  have hlocks := B.notSynchronized
  have hin4 : ∀ w ∈ wsX40, w ∈ wsX4_ownerAnew := by decide +kernel
  have hin3 : ∀ w ∈ wsX30, w ∈ wsX4_ownerAnew := by decide +kernel
  have hin2 : ∀ w ∈ wsX20, w ∈ wsX4_ownerAnew := by decide +kernel
  have hin1 : ∀ w ∈ wsX10, w ∈ wsX4_ownerAnew := by decide +kernel
  have hin0 : ∀ w ∈ wsX00, w ∈ wsX4_ownerAnew := by decide +kernel
  have hW := xW.start (s := s) ⟨rfl, hv2⟩
  clear hv2
  generalize xAw xa (xGs G0 D xa σ τ) s.heap.size = A at hW ⊢
  have hl := lv_entry ([.ref (xa 0 0), .int (t)]) (n := 2) (Nat.le_of_ble_eq_true rfl)
  rw [lg_entry_eq]
  generalize (lg_sl ([.ref (xa 0 0), .int (t)]) ++ List.replicate (2 - (lg_sl ([.ref (xa 0 0), .int (t)])).length) Slot.unset).toArray = ls at hl ⊢
  have hl : lv_has ls 2 [(0, .ref (xa 0 0)), (1, .int (t))] := hl
  refine lv_aload_n hx hb dX4_ownerAnew_0 rfl (lv_at hl 0 rfl) ?_
  refine lv_aload_n hx hb dX4_ownerAnew_1 rfl (lv_at hl 0 rfl) ?_
  refine lv_iload_n hx hb dX4_ownerAnew_2 rfl (lv_at hl 1 rfl) ?_
  refine yv_r (k := 0) (i := 0) (As := [.int (t)]) (rest := [.ref (xa 0 0)]) ⟨hx, hb, hml, hown, hts⟩ (c_X4_thingNumbered l hst0 D sa xa G0 σ τ hg hL t) (cwV 1 hts gX4_ownerAnew_X4_thingNumbered rfl rfl rfl (by decide +kernel) ⟨Nat.le_of_ble_eq_true rfl, Nat.le_of_ble_eq_true rfl⟩) ⟨hout, hlocks⟩ (fun E h => px1 h.2 h.1) ⟨Nat.le_of_ble_eq_true rfl, Nat.le_of_ble_eq_true rfl⟩ hW (xg_x G0 D xa σ τ) rfl rfl rfl rfl hl.1 (Nat.le_of_ble_eq_true rfl) dX4_ownerAnew_3 ⟨Nat.le_of_ble_eq_true rfl, Nat.le_of_ble_eq_true rfl⟩ (fun r_3 xa1 G1 H locs hp hW => ?_)
  obtain ⟨ti, hti, rfl, ha_3, hu⟩ := hp
  cases hu
  subst ha_3
  refine xv_q (k := 0) (i := 0) (As := [.ref (xa 13 ti)]) (rest := []) ⟨hx, hb, hml, hown, hts⟩ (c_X4_titleFromLast l D sa xa G0 σ τ hg hL hT ti (hti)) (cwV 1 hts gX4_ownerAnew_X4_titleFromLast rfl rfl rfl (by decide +kernel) ⟨Nat.le_of_ble_eq_true rfl, Nat.le_of_ble_eq_true rfl⟩) hW (xg_x G0 D xa σ τ) rfl rfl rfl rfl hl.1 (Nat.le_of_ble_eq_true rfl) dX4_ownerAnew_6 ⟨Nat.le_of_ble_eq_true rfl, Nat.le_of_ble_eq_true rfl⟩ (fun r_6 xa1 G1 H locs hp hW => ?_)
  obtain ⟨τ1, hu1, hL1, hT1, hr1⟩ := hp
  have hp := And.intro hu1 hr1
  obtain ⟨hu, hr_6⟩ := hp
  cases hu
  obtain ⟨ot, ho1, ho2⟩ : ∃ ot : Option Nat, r_6 = ot.map (xa 10) ∧ ((σ 11 ti = 0 ∧ ot = none) ∨ (0 < σ 11 ti ∧ ∃ t, ttl σ ti (ordr σ ti) (σ 11 ti) (σ 11 ti - 1) t ∧ ot = some t)) := by
    rcases hr_6 with ⟨a1, a2⟩ | ⟨a1, t, a2, a3⟩
    · exact ⟨none, a2, Or.inl ⟨a1, rfl⟩⟩
    · exact ⟨some t, a3, Or.inr ⟨a1, t, a2, rfl⟩⟩
  subst ho1
  have hot : ∀ a, ot = some a → a < σ 5 0 := fun a h => by
    rcases ho2 with ⟨_, b⟩ | ⟨b1, t, b2, b3⟩
    · rw [b] at h; cases h
    · rw [b3] at h; cases h; exact ttl_lt hg (by omega) (by omega) b2
  have hown0 : own σ ti (lifd σ 3 ot) := by
    rcases ho2 with ⟨a1, b⟩ | ⟨b1, t, b2, b3⟩
    · rw [b]; exact Or.inl ⟨a1, rfl⟩
    · rw [b3]; exact Or.inr ⟨b1, t, b2, rfl⟩
  refine lv_iconst (v := nI (3)) hx hb dX4_ownerAnew_9 (by decide +kernel) ?_
  refine xs_q (As := [va_rf (ot.map (xa 10)), .int (nI (3))]) (rest := []) ⟨hx, hb, hml, hown, hts⟩ (c_X4_livingFor_3 l D sa xa G0 σ τ1 hg ot hot) (va_cwS 2 hts gX4_ownerAnew_X4_livingFor rfl rfl rfl (by decide +kernel) ⟨Nat.le_of_ble_eq_true rfl, Nat.le_of_ble_eq_true rfl⟩) hW rfl rfl hl.1 (Nat.le_of_ble_eq_true rfl) dX4_ownerAnew_10 ⟨Nat.le_of_ble_eq_true rfl, Nat.le_of_ble_eq_true rfl⟩ (fun r_10 xa1 G1 H locs hp hW => ?_)
  obtain ⟨hu, hr_10⟩ := hp
  cases hu
  subst hr_10
  refine xs_i (As := [va_rf ((lifd σ 3 ot).map (xa 10))]) (rest := []) ⟨hx, hb, hml, hown, hts⟩ (c_X4_numberOf l D sa xa G0 σ τ1 hg (lifd σ 3 ot) (lifd_lt hg hot)) (va_cwS 1 hts gX4_ownerAnew_X4_numberOf rfl rfl rfl (by decide +kernel) ⟨Nat.le_of_ble_eq_true rfl, Nat.le_of_ble_eq_true rfl⟩) hW rfl rfl hl.1 (Nat.le_of_ble_eq_true rfl) dX4_ownerAnew_13 ⟨Nat.le_of_ble_eq_true rfl, Nat.le_of_ble_eq_true rfl⟩ (fun r_13 xa1 G1 H locs hp hW => ?_)
  obtain ⟨hu, hr_13⟩ := hp
  cases hu
  exact ye_i hx hb hr rfl hlocks hW ⟨gk.mk0 (pT_of hti h12) trivial trivial, xa, τ1, fun _ _ _ => rfl, rfl, hL1, hT1, lifd σ 3 ot, hr_13, by rw [xn_nI (by omega)]; exact hown0⟩ (Nat.le_of_ble_eq_true rfl) (Nat.le_of_ble_eq_true rfl) dX4_ownerAnew_16
