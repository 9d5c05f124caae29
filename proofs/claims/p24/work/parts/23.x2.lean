set_option maxHeartbeats 4000000 in
set_option maxRecDepth 100000 in
theorem c_X4_livingHeir_0 (l : Launch) (D : xD) (sa : Nat → Nat) (xa : xA) (G0 : xG) (σ : Sg) (τ : Tg) (hg : Gd σ) (i : Nat) (hi : i < σ 5 0) : xCq l yX4_livingHeir wsX4_livingHeir ({ frames := 10, cells := 0, slots := 0, locals := 200 } : Room) D sa xa (xGs G0 D xa σ τ) [.ref (xa 10 i), .int (nI 0)] (fun r u => u = (xa, xGs G0 D xa σ τ) ∧ r = (fh σ 0 i).map (xa 10)) 0 0 := by
  have hB := hg.1
  have h5 := hg.2.1.1
  have h7 := hg.2.1.2.1
  have h12 := hg.2.1.2.2.1
  have hy0 := hg.2.1.2.2.2.1
  have hy1 := hg.2.1.2.2.2.2
  have hm := hg.hm
  have hs8 := hg.hs8
  intro sz
  refine Met.ofW (cc := cX4_livingHeir) (maxL := 7) (ret := (some (.object "Restitutory$Person"))) (by decide +kernel) rfl ?_
  intro p e s m args below meth c s₁ B hml hv
  obtain ⟨rfl, hsz, hv2⟩ := hv
  subst hsz
  have hx := B.exec
  have hb := B.bytes
  have hr := B.returns
  have hts := atoms_spec (ws := wsX4_livingHeir) B.pre
  have hown : s.vm.findClass RX4 = some m.cls := findClass_of_methodNamed B.named
  have hlocks := B.notSynchronized
  have hin1 : ∀ w ∈ wsX10, w ∈ wsX4_livingHeir := by decide +kernel
  have hW := xW.start (s := s) ⟨rfl, hv2⟩
  clear hv2
  generalize xAw xa (xGs G0 D xa σ τ) s.heap.size = A at hW ⊢
  have hl := lv_entry ([.ref (xa 10 i), .int (nI (0))]) (n := 7) (Nat.le_of_ble_eq_true rfl)
  rw [lg_entry_eq]
  generalize (lg_sl ([.ref (xa 10 i), .int (nI (0))]) ++ List.replicate (7 - (lg_sl ([.ref (xa 10 i), .int (nI (0))])).length) Slot.unset).toArray = ls at hl ⊢
  have hl : lv_has ls 7 [(0, .ref (xa 10 i)), (1, .int (nI (0)))] := hl
  refine lv_iload_n hx hb dX4_livingHeir_0 rfl (lv_at hl 1 rfl) ?_
  refine lv_if_gt (tgt := 6) hx hb dX4_livingHeir_1 (by decide) (fun c_1 => ?_) (fun c_1 => ?_)
  · -- gt taken
    have c_1 := Int32.lt_iff_toInt_lt.mp c_1
    rw [nI_toInt (n := 0) (by omega)] at c_1
    rw [x_t0] at c_1
    omega
  · -- gt not
    have c_1 : ¬ (((0 : Int32)).toInt < (nI (0)).toInt) := fun h => c_1 (Int32.lt_iff_toInt_lt.mpr h)
    rw [nI_toInt (n := 0) (by omega)] at c_1
    rw [x_t0] at c_1
    refine lv_null hx hb dX4_livingHeir_4 ?_
    exact xe_q (r := none) hx hb hr hlocks hW ⟨rfl, rfl⟩ (Nat.le_refl _) (Nat.le_refl _) dX4_livingHeir_5

set_option maxHeartbeats 4000000 in
set_option maxRecDepth 100000 in
theorem c_X4_livingFor_0n (l : Launch) (D : xD) (sa : Nat → Nat) (xa : xA) (G0 : xG) (σ : Sg) (τ : Tg) (hg : Gd σ) : xCq l yX4_livingFor wsX4_livingFor ({ frames := 12, cells := 0, slots := 0, locals := 300 } : Room) D sa xa (xGs G0 D xa σ τ) [.null, .int (nI 0)] (fun r u => u = (xa, xGs G0 D xa σ τ) ∧ r = (lifd σ 0 none).map (xa 10)) 0 0 := by
  have hB := hg.1
  have h5 := hg.2.1.1
  have h7 := hg.2.1.2.1
  have h12 := hg.2.1.2.2.1
  have hy0 := hg.2.1.2.2.2.1
  have hy1 := hg.2.1.2.2.2.2
  have hm := hg.hm
  have hs8 := hg.hs8
  intro sz
  refine Met.ofW (cc := cX4_livingFor) (maxL := 2) (ret := (some (.object "Restitutory$Person"))) (by decide +kernel) rfl ?_
  intro p e s m args below meth c s₁ B hml hv
  obtain ⟨rfl, hsz, hv2⟩ := hv
  subst hsz
  have hx := B.exec
  have hb := B.bytes
  have hr := B.returns
  have hts := atoms_spec (ws := wsX4_livingFor) B.pre
  have hown : s.vm.findClass RX4 = some m.cls := findClass_of_methodNamed B.named
  have hlocks := B.notSynchronized
  have hin1 : ∀ w ∈ wsX10, w ∈ wsX4_livingFor := by decide +kernel
  have hW := xW.start (s := s) ⟨rfl, hv2⟩
  clear hv2
  generalize xAw xa (xGs G0 D xa σ τ) s.heap.size = A at hW ⊢
  have hl := lv_entry ([.null, .int (nI (0))]) (n := 2) (Nat.le_of_ble_eq_true rfl)
  rw [lg_entry_eq]
  generalize (lg_sl ([.null, .int (nI (0))]) ++ List.replicate (2 - (lg_sl ([.null, .int (nI (0))])).length) Slot.unset).toArray = ls at hl ⊢
  have hl : lv_has ls 2 [(0, .null), (1, .int (nI (0)))] := hl
  refine lv_aload_nN hx hb dX4_livingFor_0 rfl (lv_at hl 0 rfl) ?_
  refine lv_ifnullN (tgt := 11) hx hb dX4_livingFor_1 (by decide) ?_
  refine lv_aload_nN hx hb dX4_livingFor_11 rfl (lv_at hl 0 rfl) ?_
  exact xe_q (r := none) hx hb hr hlocks hW ⟨rfl, rfl⟩ (Nat.le_refl _) (Nat.le_refl _) dX4_livingFor_12

set_option maxHeartbeats 4000000 in
set_option maxRecDepth 100000 in
theorem c_X4_livingFor_0s (l : Launch) (D : xD) (sa : Nat → Nat) (xa : xA) (G0 : xG) (σ : Sg) (τ : Tg) (hg : Gd σ) (i : Nat) (hi : i < σ 5 0) : xCq l yX4_livingFor wsX4_livingFor ({ frames := 12, cells := 0, slots := 0, locals := 300 } : Room) D sa xa (xGs G0 D xa σ τ) [.ref (xa 10 i), .int (nI 0)] (fun r u => u = (xa, xGs G0 D xa σ τ) ∧ r = (lifd σ 0 (some i)).map (xa 10)) 0 0 := by
  have hB := hg.1
  have h5 := hg.2.1.1
  have h7 := hg.2.1.2.1
  have h12 := hg.2.1.2.2.1
  have hy0 := hg.2.1.2.2.2.1
  have hy1 := hg.2.1.2.2.2.2
  have hm := hg.hm
  have hs8 := hg.hs8
  intro sz
  refine Met.ofW (cc := cX4_livingFor) (maxL := 2) (ret := (some (.object "Restitutory$Person"))) (by decide +kernel) rfl ?_
  intro p e s m args below meth c s₁ B hml hv
  obtain ⟨rfl, hsz, hv2⟩ := hv
  subst hsz
  have hx := B.exec
  have hb := B.bytes
  have hr := B.returns
  have hts := atoms_spec (ws := wsX4_livingFor) B.pre
  have hown : s.vm.findClass RX4 = some m.cls := findClass_of_methodNamed B.named
  have hlocks := B.notSynchronized
  have hin1 : ∀ w ∈ wsX10, w ∈ wsX4_livingFor := by decide +kernel
  have hW := xW.start (s := s) ⟨rfl, hv2⟩
  clear hv2
  generalize xAw xa (xGs G0 D xa σ τ) s.heap.size = A at hW ⊢
  have hl := lv_entry ([.ref (xa 10 i), .int (nI (0))]) (n := 2) (Nat.le_of_ble_eq_true rfl)
  rw [lg_entry_eq]
  generalize (lg_sl ([.ref (xa 10 i), .int (nI (0))]) ++ List.replicate (2 - (lg_sl ([.ref (xa 10 i), .int (nI (0))])).length) Slot.unset).toArray = ls at hl ⊢
  have hl : lv_has ls 2 [(0, .ref (xa 10 i)), (1, .int (nI (0)))] := hl
  refine lv_aload_n hx hb dX4_livingFor_0 rfl (lv_at hl 0 rfl) ?_
  refine lv_ifnull hx hb dX4_livingFor_1 ?_
  refine lv_aload_n hx hb dX4_livingFor_4 rfl (lv_at hl 0 rfl) ?_
  refine x_get hx hb hts hin1 hown hW 10 i (xg_p G0 D xa σ τ (i := i) (by omega)) rfl 2 (by decide) (hts (.fieldLink RX4 56 "Restitutory$Person" "dead" "Z") (by decide +kernel)) rfl (v := .int (nI (σ 2 i))) (rfl) dX4_livingFor_5 ?_
  have b_5 := hB 2 i
  refine lv_if_ne (tgt := 13) hx hb dX4_livingFor_8 (by decide) (fun c_8 => ?_) (fun c_8 => ?_)
  · -- ne taken
    have c_8 : ¬ (σ 2 i = 0) := fun h_ => c_8 ((x_eqZ (a := σ 2 i) (by omega)).mpr h_)
    refine lv_aload_n hx hb dX4_livingFor_13 rfl (lv_at hl 0 rfl) ?_
    refine lv_iload_n hx hb dX4_livingFor_14 rfl (lv_at hl 1 rfl) ?_
    refine xs_q (As := [.ref (xa 10 i), .int (nI (0))]) (rest := []) ⟨hx, hb, hml, hown, hts⟩ (c_X4_livingHeir_0 l D sa xa G0 σ τ hg i hi) (va_cwS 2 hts gX4_livingFor_X4_livingHeir rfl rfl rfl (by decide +kernel) ⟨Nat.le_of_ble_eq_true rfl, Nat.le_of_ble_eq_true rfl⟩) hW rfl rfl hl.1 (Nat.le_of_ble_eq_true rfl) dX4_livingFor_15 ⟨Nat.le_of_ble_eq_true rfl, Nat.le_of_ble_eq_true rfl⟩ (fun r_15 xa1 G1 H locs hp hW => ?_)
    obtain ⟨hu, hr_15⟩ := hp
    cases hu
    exact xe_q (r := r_15) hx hb hr hlocks hW ⟨rfl, by unfold lifd; dsimp only; rw [if_neg c_8]; exact hr_15⟩ (Nat.le_refl _) (Nat.le_refl _) dX4_livingFor_18
  · -- ne not
    have c_8 := (x_eqZ (a := σ 2 i) (by omega)).mp c_8
    refine lv_aload_n hx hb dX4_livingFor_11 rfl (lv_at hl 0 rfl) ?_
    exact xe_q (r := some (xa 10 i)) hx hb hr hlocks hW ⟨rfl, by unfold lifd; dsimp only; rw [if_pos c_8]; rfl⟩ (Nat.le_refl _) (Nat.le_refl _) dX4_livingFor_12

theorem c_X4_livingFor_0 (l : Launch) (D : xD) (sa : Nat → Nat) (xa : xA) (G0 : xG) (σ : Sg) (τ : Tg) (hg : Gd σ) (o : Option Nat) (ho : ∀ i, o = some i → i < σ 5 0) : xCq l yX4_livingFor wsX4_livingFor ({ frames := 12, cells := 0, slots := 0, locals := 300 } : Room) D sa xa (xGs G0 D xa σ τ) [va_rf (o.map (xa 10)), .int (nI 0)] (fun r u => u = (xa, xGs G0 D xa σ τ) ∧ r = (lifd σ 0 o).map (xa 10)) 0 0 := by
  cases o with
  | none => exact c_X4_livingFor_0n l D sa xa G0 σ τ hg
  | some i => exact c_X4_livingFor_0s l D sa xa G0 σ τ hg i (ho i rfl)

set_option maxHeartbeats 4000000 in
set_option maxRecDepth 100000 in
theorem c_X4_livingHeir_1 (l : Launch) (D : xD) (sa : Nat → Nat) (xa : xA) (G0 : xG) (σ : Sg) (τ : Tg) (hg : Gd σ) (i : Nat) (hi : i < σ 5 0) : xCq l yX4_livingHeir wsX4_livingHeir ({ frames := 14, cells := 0, slots := 0, locals := 400 } : Room) D sa xa (xGs G0 D xa σ τ) [.ref (xa 10 i), .int (nI 1)] (fun r u => u = (xa, xGs G0 D xa σ τ) ∧ r = (fh σ 1 i).map (xa 10)) 0 0 := by
  have hB := hg.1
  have h5 := hg.2.1.1
  have h7 := hg.2.1.2.1
  have h12 := hg.2.1.2.2.1
  have hy0 := hg.2.1.2.2.2.1
  have hy1 := hg.2.1.2.2.2.2
  have hm := hg.hm
  have hs8 := hg.hs8
  intro sz
  refine Met.ofW (cc := cX4_livingHeir) (maxL := 7) (ret := (some (.object "Restitutory$Person"))) (by decide +kernel) rfl ?_
  intro p e s m args below meth c s₁ B hml hv
  obtain ⟨rfl, hsz, hv2⟩ := hv
  subst hsz
  have hx := B.exec
  have hb := B.bytes
  have hr := B.returns
  have hts := atoms_spec (ws := wsX4_livingHeir) B.pre
  have hown : s.vm.findClass RX4 = some m.cls := findClass_of_methodNamed B.named
  have hlocks := B.notSynchronized
  have hin1 : ∀ w ∈ wsX10, w ∈ wsX4_livingHeir := by decide +kernel
  have hW := xW.start (s := s) ⟨rfl, hv2⟩
  clear hv2
  generalize xAw xa (xGs G0 D xa σ τ) s.heap.size = A at hW ⊢
  have hl := lv_entry ([.ref (xa 10 i), .int (nI (1))]) (n := 7) (Nat.le_of_ble_eq_true rfl)
  rw [lg_entry_eq]
  generalize (lg_sl ([.ref (xa 10 i), .int (nI (1))]) ++ List.replicate (7 - (lg_sl ([.ref (xa 10 i), .int (nI (1))])).length) Slot.unset).toArray = ls at hl ⊢
  have hl : lv_has ls 7 [(0, .ref (xa 10 i)), (1, .int (nI (1)))] := hl
  refine lv_iload_n hx hb dX4_livingHeir_0 rfl (lv_at hl 1 rfl) ?_
  refine lv_if_gt (tgt := 6) hx hb dX4_livingHeir_1 (by decide) (fun c_1 => ?_) (fun c_1 => ?_)
  · -- gt taken
    have c_1 := Int32.lt_iff_toInt_lt.mp c_1
    rw [nI_toInt (n := 1) (by omega)] at c_1
    rw [x_t0] at c_1
    refine lv_aload_n hx hb dX4_livingHeir_6 rfl (lv_at hl 0 rfl) ?_
    refine x_get hx hb hts hin1 hown hW 10 i (xg_p G0 D xa σ τ (i := i) (by omega)) rfl 3 (by decide) (hts (.fieldLink RX4 74 "Restitutory$Person" "heirs" "[LRestitutory$Person;") (by decide +kernel)) rfl (v := .ref (xa 11 i)) (rfl) dX4_livingHeir_7 ?_
    refine lv_astore_n (lv' := [(2, .ref (xa 11 i)), (0, .ref (xa 10 i)), (1, .int (nI (1)))]) hx hb dX4_livingHeir_10 rfl hl (by decide) rfl (fun ls hl => ?_)
    have hl : lv_has ls 7 [(0, .ref (xa 10 i)), (1, .int (nI (1))), (2, .ref (xa 11 i))] := lv_sub hl [1, 2, 0] rfl
    refine lv_aload_n hx hb dX4_livingHeir_11 rfl (lv_at hl 2 rfl) ?_
    refine x_len hx hb hW 11 i 0 rfl (xg_h G0 D xa σ τ (i := i) (by omega)) (v := nI 11) rfl dX4_livingHeir_12 ?_
    refine lv_istore_n (lv' := [(3, .int (nI (11))), (0, .ref (xa 10 i)), (1, .int (nI (1))), (2, .ref (xa 11 i))]) hx hb dX4_livingHeir_13 rfl hl (by decide) rfl (fun ls hl => ?_)
    have hl : lv_has ls 7 [(0, .ref (xa 10 i)), (1, .int (nI (1))), (2, .ref (xa 11 i)), (3, .int (nI (11)))] := lv_sub hl [1, 2, 3, 0] rfl
    refine lv_iconst (v := nI (0)) hx hb dX4_livingHeir_14 (by decide +kernel) ?_
    refine lv_istore (lv' := [(4, .int (nI (0))), (0, .ref (xa 10 i)), (1, .int (nI (1))), (2, .ref (xa 11 i)), (3, .int (nI (11)))]) hx hb dX4_livingHeir_15 hl (by decide) rfl (fun ls hl => ?_)
    have hl : lv_has ls 7 [(0, .ref (xa 10 i)), (1, .int (nI (1))), (2, .ref (xa 11 i)), (3, .int (nI (11))), (4, .int (nI (0)))] := lv_sub hl [1, 2, 3, 4, 0] rfl
    refine x_loop (X := Nat) (I := fun n xv H locs ls => n = 11 - xv ∧ xW D sa A s xa (xGs G0 D xa σ τ) H locs ∧ lv_has ls 7 [(0, .ref (xa 10 i)), (1, .int (nI (1))), (2, .ref (xa 11 i)), (3, .int (nI (11))), (4, .int (nI (xv)))] ∧ (fh σ 1 i = ff (hg1 σ 0 i) xv (σ 4 i - xv)) ∧ (xv ≤ 11)) (hd := 17) ?_ (n := _) (x := (0)) ⟨rfl, hW, hl, fh_eq σ 0 i, by (try dsimp only); omega⟩
    rintro n k H locs ls ⟨hn, hW, hl, hf, hk⟩ ih17
    try dsimp only at hn hW hl hf hk
    refine lv_iload hx hb dX4_livingHeir_17 (lv_at hl 4 rfl) ?_
    refine lv_iload_n hx hb dX4_livingHeir_19 rfl (lv_at hl 3 rfl) ?_
    refine lv_icmp_ge (tgt := 53) hx hb dX4_livingHeir_20 (by decide) (fun c_20 => ?_) (fun c_20 => ?_)
    · -- ge taken
      have c_20 := Int32.le_iff_toInt_le.mp c_20
      rw [nI_toInt (n := k) (by omega)] at c_20
      rw [nI_toInt (n := 11) (by omega)] at c_20
      refine lv_null hx hb dX4_livingHeir_53 ?_
      exact xe_q (r := none) hx hb hr hlocks hW ⟨rfl, by rw [ff_end hf (by have := hm i; omega)]; rfl⟩ (Nat.le_refl _) (Nat.le_refl _) dX4_livingHeir_54
    · -- ge not
      have c_20 : ¬ ((nI (11)).toInt ≤ (nI (k)).toInt) := fun h => c_20 (Int32.le_iff_toInt_le.mpr h)
      rw [nI_toInt (n := k) (by omega)] at c_20
      rw [nI_toInt (n := 11) (by omega)] at c_20
      by_cases hkn : k < σ 4 i
      ·
        have hhr := hg.heir hi hkn
        refine lv_aload_n hx hb dX4_livingHeir_23 rfl (lv_at hl 2 rfl) ?_
        refine lv_iload hx hb dX4_livingHeir_24 (lv_at hl 4 rfl) ?_
        refine x_ald2 hx hb hW 11 i 0 rfl (xg_h G0 D xa σ τ (i := i) (by omega)) (k) (by omega) (by omega) (v := .ref (xa 10 (σ 3 (12 * i + k)))) (by show va_rf (if _ then _ else _) = _; rw [if_pos hkn]; rfl) dX4_livingHeir_26 ?_
        refine lv_astore (lv' := [(5, .ref (xa 10 (σ 3 (12 * i + k)))), (0, .ref (xa 10 i)), (1, .int (nI (1))), (2, .ref (xa 11 i)), (3, .int (nI (11))), (4, .int (nI (k)))]) hx hb dX4_livingHeir_27 hl (by decide) rfl (fun ls hl => ?_)
        have hl : lv_has ls 7 [(0, .ref (xa 10 i)), (1, .int (nI (1))), (2, .ref (xa 11 i)), (3, .int (nI (11))), (4, .int (nI (k))), (5, .ref (xa 10 (σ 3 (12 * i + k))))] := lv_sub hl [1, 2, 3, 4, 5, 0] rfl
        refine lv_aload hx hb dX4_livingHeir_29 (lv_at hl 5 rfl) ?_
        refine lv_iload_n hx hb dX4_livingHeir_31 rfl (lv_at hl 1 rfl) ?_
        refine lv_iconst (v := nI (1)) hx hb dX4_livingHeir_32 (by decide +kernel) ?_
        refine lv_isub hx hb dX4_livingHeir_33 ?_
        rw [pk_sub (a := 1) (b := 1) (by omega)]
        refine xs_q (As := [.ref (xa 10 (σ 3 (12 * i + k))), .int (nI (0))]) (rest := []) ⟨hx, hb, hml, hown, hts⟩ (c_X4_livingFor_0 l D sa xa G0 σ τ hg (some (σ 3 (12 * i + k))) (by intro j hj; cases hj; exact hhr)) (va_cwS 2 hts gX4_livingHeir_X4_livingFor rfl rfl rfl (by decide +kernel) ⟨Nat.le_of_ble_eq_true rfl, Nat.le_of_ble_eq_true rfl⟩) hW rfl rfl hl.1 (Nat.le_of_ble_eq_true rfl) dX4_livingHeir_34 ⟨Nat.le_of_ble_eq_true rfl, Nat.le_of_ble_eq_true rfl⟩ (fun r_34 xa1 G1 H locs hp hW => ?_)
        obtain ⟨hu, hr_34⟩ := hp
        cases hu
        refine x_astore (lv' := [(6, va_rf (r_34)), (0, .ref (xa 10 i)), (1, .int (nI (1))), (2, .ref (xa 11 i)), (3, .int (nI (11))), (4, .int (nI (k))), (5, .ref (xa 10 (σ 3 (12 * i + k))))]) hx hb dX4_livingHeir_37 hl (by decide) rfl (fun ls hl => ?_)
        have hl : lv_has ls 7 [(0, .ref (xa 10 i)), (1, .int (nI (1))), (2, .ref (xa 11 i)), (3, .int (nI (11))), (4, .int (nI (k))), (5, .ref (xa 10 (σ 3 (12 * i + k)))), (6, va_rf (r_34))] := lv_sub hl [1, 2, 3, 4, 5, 6, 0] rfl
        refine x_aload (r := r_34) hx hb dX4_livingHeir_39 (lv_at hl 6 rfl) ?_
        refine x_ifnull (r := r_34) (tgt := 47) hx hb dX4_livingHeir_41 (by decide) (fun c_41 => ?_) (fun a_41 c_41 => ?_)
        · -- ifnull taken
          have hnone : hg1 σ 0 i k = none := by
            rw [hr_34] at c_41
            show lifd σ 0 (some _) = none
            cases hq : lifd σ 0 (some (σ 3 (12 * i + k))) with
            | none => rfl
            | some b => rw [hq] at c_41; cases c_41
          refine lv_iinc (v := nI (k + 1)) (lv' := [(4, .int (nI (k + 1))), (0, .ref (xa 10 i)), (1, .int (nI (1))), (2, .ref (xa 11 i)), (3, .int (nI (11))), (5, .ref (xa 10 (σ 3 (12 * i + k)))), (6, va_rf (r_34))]) hx hb dX4_livingHeir_47 hl (k := 4) rfl (x_inc k 1 rfl) (by decide) rfl (fun ls hl => ?_)
          have hl : lv_has ls 7 [(0, .ref (xa 10 i)), (1, .int (nI (1))), (2, .ref (xa 11 i)), (3, .int (nI (11))), (4, .int (nI (k + 1))), (5, .ref (xa 10 (σ 3 (12 * i + k)))), (6, va_rf (r_34))] := lv_sub hl [1, 2, 3, 4, 0, 5, 6] rfl
          refine lv_goto (tgt := 17) hx hb dX4_livingHeir_50 (by decide) ?_
          exact ih17 (11 - (k + 1)) (k + 1) _ _ _ (by omega) ⟨rfl, hW, lv_sub hl [0, 1, 2, 3, 4] rfl, ff_none hf hkn hnone, by (try dsimp only); omega⟩
        · -- ifnull not
          have hsome : fh σ 1 i = lifd σ 0 (some (σ 3 (12 * i + k))) := by
            cases hq : lifd σ 0 (some (σ 3 (12 * i + k))) with
            | none => rw [hr_34, hq] at c_41; cases c_41
            | some b => exact ff_some hf hkn hq
          refine x_aload (r := r_34) hx hb dX4_livingHeir_44 (lv_at hl 6 rfl) ?_
          exact xe_q (r := r_34) hx hb hr hlocks hW ⟨rfl, by rw [hsome]; exact hr_34⟩ (Nat.le_refl _) (Nat.le_refl _) dX4_livingHeir_46
      ·
        refine lv_aload_n hx hb dX4_livingHeir_23 rfl (lv_at hl 2 rfl) ?_
        refine lv_iload hx hb dX4_livingHeir_24 (lv_at hl 4 rfl) ?_
        refine x_ald2 hx hb hW 11 i 0 rfl (xg_h G0 D xa σ τ (i := i) (by omega)) (k) (by omega) (by omega) (v := .null) (by show va_rf (if _ then _ else _) = _; rw [if_neg hkn]; rfl) dX4_livingHeir_26 ?_
        refine lv_astoreN (lv' := [(5, .null), (0, .ref (xa 10 i)), (1, .int (nI (1))), (2, .ref (xa 11 i)), (3, .int (nI (11))), (4, .int (nI (k)))]) hx hb dX4_livingHeir_27 hl (by decide) rfl (fun ls hl => ?_)
        have hl : lv_has ls 7 [(0, .ref (xa 10 i)), (1, .int (nI (1))), (2, .ref (xa 11 i)), (3, .int (nI (11))), (4, .int (nI (k))), (5, .null)] := lv_sub hl [1, 2, 3, 4, 5, 0] rfl
        refine lv_aloadN hx hb dX4_livingHeir_29 (lv_at hl 5 rfl) ?_
        refine lv_iload_n hx hb dX4_livingHeir_31 rfl (lv_at hl 1 rfl) ?_
        refine lv_iconst (v := nI (1)) hx hb dX4_livingHeir_32 (by decide +kernel) ?_
        refine lv_isub hx hb dX4_livingHeir_33 ?_
        rw [pk_sub (a := 1) (b := 1) (by omega)]
        refine xs_q (As := [.null, .int (nI (0))]) (rest := []) ⟨hx, hb, hml, hown, hts⟩ (c_X4_livingFor_0 l D sa xa G0 σ τ hg none (by intro j hj; cases hj)) (va_cwS 2 hts gX4_livingHeir_X4_livingFor rfl rfl rfl (by decide +kernel) ⟨Nat.le_of_ble_eq_true rfl, Nat.le_of_ble_eq_true rfl⟩) hW rfl rfl hl.1 (Nat.le_of_ble_eq_true rfl) dX4_livingHeir_34 ⟨Nat.le_of_ble_eq_true rfl, Nat.le_of_ble_eq_true rfl⟩ (fun r_34 xa1 G1 H locs hp hW => ?_)
        obtain ⟨hu, hr_34⟩ := hp
        cases hu
        refine x_astore (lv' := [(6, va_rf (r_34)), (0, .ref (xa 10 i)), (1, .int (nI (1))), (2, .ref (xa 11 i)), (3, .int (nI (11))), (4, .int (nI (k))), (5, .null)]) hx hb dX4_livingHeir_37 hl (by decide) rfl (fun ls hl => ?_)
        have hl : lv_has ls 7 [(0, .ref (xa 10 i)), (1, .int (nI (1))), (2, .ref (xa 11 i)), (3, .int (nI (11))), (4, .int (nI (k))), (5, .null), (6, va_rf (r_34))] := lv_sub hl [1, 2, 3, 4, 5, 6, 0] rfl
        refine x_aload (r := r_34) hx hb dX4_livingHeir_39 (lv_at hl 6 rfl) ?_
        refine x_ifnull (r := r_34) (tgt := 47) hx hb dX4_livingHeir_41 (by decide) (fun c_41 => ?_) (fun a_41 c_41 => ?_)
        · -- ifnull taken
          refine lv_iinc (v := nI (k + 1)) (lv' := [(4, .int (nI (k + 1))), (0, .ref (xa 10 i)), (1, .int (nI (1))), (2, .ref (xa 11 i)), (3, .int (nI (11))), (5, .null), (6, va_rf (r_34))]) hx hb dX4_livingHeir_47 hl (k := 4) rfl (x_inc k 1 rfl) (by decide) rfl (fun ls hl => ?_)
          have hl : lv_has ls 7 [(0, .ref (xa 10 i)), (1, .int (nI (1))), (2, .ref (xa 11 i)), (3, .int (nI (11))), (4, .int (nI (k + 1))), (5, .null), (6, va_rf (r_34))] := lv_sub hl [1, 2, 3, 4, 0, 5, 6] rfl
          refine lv_goto (tgt := 17) hx hb dX4_livingHeir_50 (by decide) ?_
          exact ih17 (11 - (k + 1)) (k + 1) _ _ _ (by omega) ⟨rfl, hW, lv_sub hl [0, 1, 2, 3, 4] rfl, ff_past hf (by omega), by (try dsimp only); omega⟩
        · -- ifnull not
          rw [hr_34] at c_41
          cases c_41
  · -- gt not
    have c_1 : ¬ (((0 : Int32)).toInt < (nI (1)).toInt) := fun h => c_1 (Int32.lt_iff_toInt_lt.mpr h)
    rw [nI_toInt (n := 1) (by omega)] at c_1
    rw [x_t0] at c_1
    omega

set_option maxHeartbeats 4000000 in
set_option maxRecDepth 100000 in
theorem c_X4_livingFor_1n (l : Launch) (D : xD) (sa : Nat → Nat) (xa : xA) (G0 : xG) (σ : Sg) (τ : Tg) (hg : Gd σ) : xCq l yX4_livingFor wsX4_livingFor ({ frames := 16, cells := 0, slots := 0, locals := 500 } : Room) D sa xa (xGs G0 D xa σ τ) [.null, .int (nI 1)] (fun r u => u = (xa, xGs G0 D xa σ τ) ∧ r = (lifd σ 1 none).map (xa 10)) 0 0 := by
  have hB := hg.1
  have h5 := hg.2.1.1
  have h7 := hg.2.1.2.1
  have h12 := hg.2.1.2.2.1
  have hy0 := hg.2.1.2.2.2.1
  have hy1 := hg.2.1.2.2.2.2
  have hm := hg.hm
  have hs8 := hg.hs8
  intro sz
  refine Met.ofW (cc := cX4_livingFor) (maxL := 2) (ret := (some (.object "Restitutory$Person"))) (by decide +kernel) rfl ?_
  intro p e s m args below meth c s₁ B hml hv
  obtain ⟨rfl, hsz, hv2⟩ := hv
  subst hsz
  have hx := B.exec
  have hb := B.bytes
  have hr := B.returns
  have hts := atoms_spec (ws := wsX4_livingFor) B.pre
  have hown : s.vm.findClass RX4 = some m.cls := findClass_of_methodNamed B.named
  have hlocks := B.notSynchronized
  have hin1 : ∀ w ∈ wsX10, w ∈ wsX4_livingFor := by decide +kernel
  have hW := xW.start (s := s) ⟨rfl, hv2⟩
  clear hv2
  generalize xAw xa (xGs G0 D xa σ τ) s.heap.size = A at hW ⊢
  have hl := lv_entry ([.null, .int (nI (1))]) (n := 2) (Nat.le_of_ble_eq_true rfl)
  rw [lg_entry_eq]
  generalize (lg_sl ([.null, .int (nI (1))]) ++ List.replicate (2 - (lg_sl ([.null, .int (nI (1))])).length) Slot.unset).toArray = ls at hl ⊢
  have hl : lv_has ls 2 [(0, .null), (1, .int (nI (1)))] := hl
  refine lv_aload_nN hx hb dX4_livingFor_0 rfl (lv_at hl 0 rfl) ?_
  refine lv_ifnullN (tgt := 11) hx hb dX4_livingFor_1 (by decide) ?_
  refine lv_aload_nN hx hb dX4_livingFor_11 rfl (lv_at hl 0 rfl) ?_
  exact xe_q (r := none) hx hb hr hlocks hW ⟨rfl, rfl⟩ (Nat.le_refl _) (Nat.le_refl _) dX4_livingFor_12

set_option maxHeartbeats 4000000 in
set_option maxRecDepth 100000 in
theorem c_X4_livingFor_1s (l : Launch) (D : xD) (sa : Nat → Nat) (xa : xA) (G0 : xG) (σ : Sg) (τ : Tg) (hg : Gd σ) (i : Nat) (hi : i < σ 5 0) : xCq l yX4_livingFor wsX4_livingFor ({ frames := 16, cells := 0, slots := 0, locals := 500 } : Room) D sa xa (xGs G0 D xa σ τ) [.ref (xa 10 i), .int (nI 1)] (fun r u => u = (xa, xGs G0 D xa σ τ) ∧ r = (lifd σ 1 (some i)).map (xa 10)) 0 0 := by
  have hB := hg.1
  have h5 := hg.2.1.1
  have h7 := hg.2.1.2.1
  have h12 := hg.2.1.2.2.1
  have hy0 := hg.2.1.2.2.2.1
  have hy1 := hg.2.1.2.2.2.2
  have hm := hg.hm
  have hs8 := hg.hs8
  intro sz
  refine Met.ofW (cc := cX4_livingFor) (maxL := 2) (ret := (some (.object "Restitutory$Person"))) (by decide +kernel) rfl ?_
  intro p e s m args below meth c s₁ B hml hv
  obtain ⟨rfl, hsz, hv2⟩ := hv
  subst hsz
  have hx := B.exec
  have hb := B.bytes
  have hr := B.returns
  have hts := atoms_spec (ws := wsX4_livingFor) B.pre
  have hown : s.vm.findClass RX4 = some m.cls := findClass_of_methodNamed B.named
  have hlocks := B.notSynchronized
  have hin1 : ∀ w ∈ wsX10, w ∈ wsX4_livingFor := by decide +kernel
  have hW := xW.start (s := s) ⟨rfl, hv2⟩
  clear hv2
  generalize xAw xa (xGs G0 D xa σ τ) s.heap.size = A at hW ⊢
  have hl := lv_entry ([.ref (xa 10 i), .int (nI (1))]) (n := 2) (Nat.le_of_ble_eq_true rfl)
  rw [lg_entry_eq]
  generalize (lg_sl ([.ref (xa 10 i), .int (nI (1))]) ++ List.replicate (2 - (lg_sl ([.ref (xa 10 i), .int (nI (1))])).length) Slot.unset).toArray = ls at hl ⊢
  have hl : lv_has ls 2 [(0, .ref (xa 10 i)), (1, .int (nI (1)))] := hl
  refine lv_aload_n hx hb dX4_livingFor_0 rfl (lv_at hl 0 rfl) ?_
  refine lv_ifnull hx hb dX4_livingFor_1 ?_
  refine lv_aload_n hx hb dX4_livingFor_4 rfl (lv_at hl 0 rfl) ?_
  refine x_get hx hb hts hin1 hown hW 10 i (xg_p G0 D xa σ τ (i := i) (by omega)) rfl 2 (by decide) (hts (.fieldLink RX4 56 "Restitutory$Person" "dead" "Z") (by decide +kernel)) rfl (v := .int (nI (σ 2 i))) (rfl) dX4_livingFor_5 ?_
  have b_5 := hB 2 i
  refine lv_if_ne (tgt := 13) hx hb dX4_livingFor_8 (by decide) (fun c_8 => ?_) (fun c_8 => ?_)
  · -- ne taken
    have c_8 : ¬ (σ 2 i = 0) := fun h_ => c_8 ((x_eqZ (a := σ 2 i) (by omega)).mpr h_)
    refine lv_aload_n hx hb dX4_livingFor_13 rfl (lv_at hl 0 rfl) ?_
    refine lv_iload_n hx hb dX4_livingFor_14 rfl (lv_at hl 1 rfl) ?_
    refine xs_q (As := [.ref (xa 10 i), .int (nI (1))]) (rest := []) ⟨hx, hb, hml, hown, hts⟩ (c_X4_livingHeir_1 l D sa xa G0 σ τ hg i hi) (va_cwS 2 hts gX4_livingFor_X4_livingHeir rfl rfl rfl (by decide +kernel) ⟨Nat.le_of_ble_eq_true rfl, Nat.le_of_ble_eq_true rfl⟩) hW rfl rfl hl.1 (Nat.le_of_ble_eq_true rfl) dX4_livingFor_15 ⟨Nat.le_of_ble_eq_true rfl, Nat.le_of_ble_eq_true rfl⟩ (fun r_15 xa1 G1 H locs hp hW => ?_)
    obtain ⟨hu, hr_15⟩ := hp
    cases hu
    exact xe_q (r := r_15) hx hb hr hlocks hW ⟨rfl, by unfold lifd; dsimp only; rw [if_neg c_8]; exact hr_15⟩ (Nat.le_refl _) (Nat.le_refl _) dX4_livingFor_18
  · -- ne not
    have c_8 := (x_eqZ (a := σ 2 i) (by omega)).mp c_8
    refine lv_aload_n hx hb dX4_livingFor_11 rfl (lv_at hl 0 rfl) ?_
    exact xe_q (r := some (xa 10 i)) hx hb hr hlocks hW ⟨rfl, by unfold lifd; dsimp only; rw [if_pos c_8]; rfl⟩ (Nat.le_refl _) (Nat.le_refl _) dX4_livingFor_12

theorem c_X4_livingFor_1 (l : Launch) (D : xD) (sa : Nat → Nat) (xa : xA) (G0 : xG) (σ : Sg) (τ : Tg) (hg : Gd σ) (o : Option Nat) (ho : ∀ i, o = some i → i < σ 5 0) : xCq l yX4_livingFor wsX4_livingFor ({ frames := 16, cells := 0, slots := 0, locals := 500 } : Room) D sa xa (xGs G0 D xa σ τ) [va_rf (o.map (xa 10)), .int (nI 1)] (fun r u => u = (xa, xGs G0 D xa σ τ) ∧ r = (lifd σ 1 o).map (xa 10)) 0 0 := by
  cases o with
  | none => exact c_X4_livingFor_1n l D sa xa G0 σ τ hg
  | some i => exact c_X4_livingFor_1s l D sa xa G0 σ τ hg i (ho i rfl)

set_option maxHeartbeats 4000000 in
set_option maxRecDepth 100000 in
theorem c_X4_livingHeir_2 (l : Launch) (D : xD) (sa : Nat → Nat) (xa : xA) (G0 : xG) (σ : Sg) (τ : Tg) (hg : Gd σ) (i : Nat) (hi : i < σ 5 0) : xCq l yX4_livingHeir wsX4_livingHeir ({ frames := 18, cells := 0, slots := 0, locals := 600 } : Room) D sa xa (xGs G0 D xa σ τ) [.ref (xa 10 i), .int (nI 2)] (fun r u => u = (xa, xGs G0 D xa σ τ) ∧ r = (fh σ 2 i).map (xa 10)) 0 0 := by
  have hB := hg.1
  have h5 := hg.2.1.1
  have h7 := hg.2.1.2.1
  have h12 := hg.2.1.2.2.1
  have hy0 := hg.2.1.2.2.2.1
  have hy1 := hg.2.1.2.2.2.2
  have hm := hg.hm
  have hs8 := hg.hs8
  intro sz
  refine Met.ofW (cc := cX4_livingHeir) (maxL := 7) (ret := (some (.object "Restitutory$Person"))) (by decide +kernel) rfl ?_
  intro p e s m args below meth c s₁ B hml hv
  obtain ⟨rfl, hsz, hv2⟩ := hv
  subst hsz
  have hx := B.exec
  have hb := B.bytes
  have hr := B.returns
  have hts := atoms_spec (ws := wsX4_livingHeir) B.pre
  have hown : s.vm.findClass RX4 = some m.cls := findClass_of_methodNamed B.named
  have hlocks := B.notSynchronized
  have hin1 : ∀ w ∈ wsX10, w ∈ wsX4_livingHeir := by decide +kernel
  have hW := xW.start (s := s) ⟨rfl, hv2⟩
  clear hv2
  generalize xAw xa (xGs G0 D xa σ τ) s.heap.size = A at hW ⊢
  have hl := lv_entry ([.ref (xa 10 i), .int (nI (2))]) (n := 7) (Nat.le_of_ble_eq_true rfl)
  rw [lg_entry_eq]
  generalize (lg_sl ([.ref (xa 10 i), .int (nI (2))]) ++ List.replicate (7 - (lg_sl ([.ref (xa 10 i), .int (nI (2))])).length) Slot.unset).toArray = ls at hl ⊢
  have hl : lv_has ls 7 [(0, .ref (xa 10 i)), (1, .int (nI (2)))] := hl
  refine lv_iload_n hx hb dX4_livingHeir_0 rfl (lv_at hl 1 rfl) ?_
  refine lv_if_gt (tgt := 6) hx hb dX4_livingHeir_1 (by decide) (fun c_1 => ?_) (fun c_1 => ?_)
  · -- gt taken
    have c_1 := Int32.lt_iff_toInt_lt.mp c_1
    rw [nI_toInt (n := 2) (by omega)] at c_1
    rw [x_t0] at c_1
    refine lv_aload_n hx hb dX4_livingHeir_6 rfl (lv_at hl 0 rfl) ?_
    refine x_get hx hb hts hin1 hown hW 10 i (xg_p G0 D xa σ τ (i := i) (by omega)) rfl 3 (by decide) (hts (.fieldLink RX4 74 "Restitutory$Person" "heirs" "[LRestitutory$Person;") (by decide +kernel)) rfl (v := .ref (xa 11 i)) (rfl) dX4_livingHeir_7 ?_
    refine lv_astore_n (lv' := [(2, .ref (xa 11 i)), (0, .ref (xa 10 i)), (1, .int (nI (2)))]) hx hb dX4_livingHeir_10 rfl hl (by decide) rfl (fun ls hl => ?_)
    have hl : lv_has ls 7 [(0, .ref (xa 10 i)), (1, .int (nI (2))), (2, .ref (xa 11 i))] := lv_sub hl [1, 2, 0] rfl
    refine lv_aload_n hx hb dX4_livingHeir_11 rfl (lv_at hl 2 rfl) ?_
    refine x_len hx hb hW 11 i 0 rfl (xg_h G0 D xa σ τ (i := i) (by omega)) (v := nI 11) rfl dX4_livingHeir_12 ?_
    refine lv_istore_n (lv' := [(3, .int (nI (11))), (0, .ref (xa 10 i)), (1, .int (nI (2))), (2, .ref (xa 11 i))]) hx hb dX4_livingHeir_13 rfl hl (by decide) rfl (fun ls hl => ?_)
    have hl : lv_has ls 7 [(0, .ref (xa 10 i)), (1, .int (nI (2))), (2, .ref (xa 11 i)), (3, .int (nI (11)))] := lv_sub hl [1, 2, 3, 0] rfl
    refine lv_iconst (v := nI (0)) hx hb dX4_livingHeir_14 (by decide +kernel) ?_
    refine lv_istore (lv' := [(4, .int (nI (0))), (0, .ref (xa 10 i)), (1, .int (nI (2))), (2, .ref (xa 11 i)), (3, .int (nI (11)))]) hx hb dX4_livingHeir_15 hl (by decide) rfl (fun ls hl => ?_)
    have hl : lv_has ls 7 [(0, .ref (xa 10 i)), (1, .int (nI (2))), (2, .ref (xa 11 i)), (3, .int (nI (11))), (4, .int (nI (0)))] := lv_sub hl [1, 2, 3, 4, 0] rfl
    refine x_loop (X := Nat) (I := fun n xv H locs ls => n = 11 - xv ∧ xW D sa A s xa (xGs G0 D xa σ τ) H locs ∧ lv_has ls 7 [(0, .ref (xa 10 i)), (1, .int (nI (2))), (2, .ref (xa 11 i)), (3, .int (nI (11))), (4, .int (nI (xv)))] ∧ (fh σ 2 i = ff (hg1 σ 1 i) xv (σ 4 i - xv)) ∧ (xv ≤ 11)) (hd := 17) ?_ (n := _) (x := (0)) ⟨rfl, hW, hl, fh_eq σ 1 i, by (try dsimp only); omega⟩
    rintro n k H locs ls ⟨hn, hW, hl, hf, hk⟩ ih17
    try dsimp only at hn hW hl hf hk
    refine lv_iload hx hb dX4_livingHeir_17 (lv_at hl 4 rfl) ?_
    refine lv_iload_n hx hb dX4_livingHeir_19 rfl (lv_at hl 3 rfl) ?_
    refine lv_icmp_ge (tgt := 53) hx hb dX4_livingHeir_20 (by decide) (fun c_20 => ?_) (fun c_20 => ?_)
    · -- ge taken
      have c_20 := Int32.le_iff_toInt_le.mp c_20
      rw [nI_toInt (n := k) (by omega)] at c_20
      rw [nI_toInt (n := 11) (by omega)] at c_20
      refine lv_null hx hb dX4_livingHeir_53 ?_
      exact xe_q (r := none) hx hb hr hlocks hW ⟨rfl, by rw [ff_end hf (by have := hm i; omega)]; rfl⟩ (Nat.le_refl _) (Nat.le_refl _) dX4_livingHeir_54
    · -- ge not
      have c_20 : ¬ ((nI (11)).toInt ≤ (nI (k)).toInt) := fun h => c_20 (Int32.le_iff_toInt_le.mpr h)
      rw [nI_toInt (n := k) (by omega)] at c_20
      rw [nI_toInt (n := 11) (by omega)] at c_20
      by_cases hkn : k < σ 4 i
      ·
        have hhr := hg.heir hi hkn
        refine lv_aload_n hx hb dX4_livingHeir_23 rfl (lv_at hl 2 rfl) ?_
        refine lv_iload hx hb dX4_livingHeir_24 (lv_at hl 4 rfl) ?_
        refine x_ald2 hx hb hW 11 i 0 rfl (xg_h G0 D xa σ τ (i := i) (by omega)) (k) (by omega) (by omega) (v := .ref (xa 10 (σ 3 (12 * i + k)))) (by show va_rf (if _ then _ else _) = _; rw [if_pos hkn]; rfl) dX4_livingHeir_26 ?_
        refine lv_astore (lv' := [(5, .ref (xa 10 (σ 3 (12 * i + k)))), (0, .ref (xa 10 i)), (1, .int (nI (2))), (2, .ref (xa 11 i)), (3, .int (nI (11))), (4, .int (nI (k)))]) hx hb dX4_livingHeir_27 hl (by decide) rfl (fun ls hl => ?_)
        have hl : lv_has ls 7 [(0, .ref (xa 10 i)), (1, .int (nI (2))), (2, .ref (xa 11 i)), (3, .int (nI (11))), (4, .int (nI (k))), (5, .ref (xa 10 (σ 3 (12 * i + k))))] := lv_sub hl [1, 2, 3, 4, 5, 0] rfl
        refine lv_aload hx hb dX4_livingHeir_29 (lv_at hl 5 rfl) ?_
        refine lv_iload_n hx hb dX4_livingHeir_31 rfl (lv_at hl 1 rfl) ?_
        refine lv_iconst (v := nI (1)) hx hb dX4_livingHeir_32 (by decide +kernel) ?_
        refine lv_isub hx hb dX4_livingHeir_33 ?_
        rw [pk_sub (a := 2) (b := 1) (by omega)]
        refine xs_q (As := [.ref (xa 10 (σ 3 (12 * i + k))), .int (nI (1))]) (rest := []) ⟨hx, hb, hml, hown, hts⟩ (c_X4_livingFor_1 l D sa xa G0 σ τ hg (some (σ 3 (12 * i + k))) (by intro j hj; cases hj; exact hhr)) (va_cwS 2 hts gX4_livingHeir_X4_livingFor rfl rfl rfl (by decide +kernel) ⟨Nat.le_of_ble_eq_true rfl, Nat.le_of_ble_eq_true rfl⟩) hW rfl rfl hl.1 (Nat.le_of_ble_eq_true rfl) dX4_livingHeir_34 ⟨Nat.le_of_ble_eq_true rfl, Nat.le_of_ble_eq_true rfl⟩ (fun r_34 xa1 G1 H locs hp hW => ?_)
        obtain ⟨hu, hr_34⟩ := hp
        cases hu
        refine x_astore (lv' := [(6, va_rf (r_34)), (0, .ref (xa 10 i)), (1, .int (nI (2))), (2, .ref (xa 11 i)), (3, .int (nI (11))), (4, .int (nI (k))), (5, .ref (xa 10 (σ 3 (12 * i + k))))]) hx hb dX4_livingHeir_37 hl (by decide) rfl (fun ls hl => ?_)
        have hl : lv_has ls 7 [(0, .ref (xa 10 i)), (1, .int (nI (2))), (2, .ref (xa 11 i)), (3, .int (nI (11))), (4, .int (nI (k))), (5, .ref (xa 10 (σ 3 (12 * i + k)))), (6, va_rf (r_34))] := lv_sub hl [1, 2, 3, 4, 5, 6, 0] rfl
        refine x_aload (r := r_34) hx hb dX4_livingHeir_39 (lv_at hl 6 rfl) ?_
        refine x_ifnull (r := r_34) (tgt := 47) hx hb dX4_livingHeir_41 (by decide) (fun c_41 => ?_) (fun a_41 c_41 => ?_)
        · -- ifnull taken
          have hnone : hg1 σ 1 i k = none := by
            rw [hr_34] at c_41
            show lifd σ 1 (some _) = none
            cases hq : lifd σ 1 (some (σ 3 (12 * i + k))) with
            | none => rfl
            | some b => rw [hq] at c_41; cases c_41
          refine lv_iinc (v := nI (k + 1)) (lv' := [(4, .int (nI (k + 1))), (0, .ref (xa 10 i)), (1, .int (nI (2))), (2, .ref (xa 11 i)), (3, .int (nI (11))), (5, .ref (xa 10 (σ 3 (12 * i + k)))), (6, va_rf (r_34))]) hx hb dX4_livingHeir_47 hl (k := 4) rfl (x_inc k 1 rfl) (by decide) rfl (fun ls hl => ?_)
          have hl : lv_has ls 7 [(0, .ref (xa 10 i)), (1, .int (nI (2))), (2, .ref (xa 11 i)), (3, .int (nI (11))), (4, .int (nI (k + 1))), (5, .ref (xa 10 (σ 3 (12 * i + k)))), (6, va_rf (r_34))] := lv_sub hl [1, 2, 3, 4, 0, 5, 6] rfl
          refine lv_goto (tgt := 17) hx hb dX4_livingHeir_50 (by decide) ?_
          exact ih17 (11 - (k + 1)) (k + 1) _ _ _ (by omega) ⟨rfl, hW, lv_sub hl [0, 1, 2, 3, 4] rfl, ff_none hf hkn hnone, by (try dsimp only); omega⟩
        · -- ifnull not
          have hsome : fh σ 2 i = lifd σ 1 (some (σ 3 (12 * i + k))) := by
            cases hq : lifd σ 1 (some (σ 3 (12 * i + k))) with
            | none => rw [hr_34, hq] at c_41; cases c_41
            | some b => exact ff_some hf hkn hq
          refine x_aload (r := r_34) hx hb dX4_livingHeir_44 (lv_at hl 6 rfl) ?_
          exact xe_q (r := r_34) hx hb hr hlocks hW ⟨rfl, by rw [hsome]; exact hr_34⟩ (Nat.le_refl _) (Nat.le_refl _) dX4_livingHeir_46
      ·
        refine lv_aload_n hx hb dX4_livingHeir_23 rfl (lv_at hl 2 rfl) ?_
        refine lv_iload hx hb dX4_livingHeir_24 (lv_at hl 4 rfl) ?_
        refine x_ald2 hx hb hW 11 i 0 rfl (xg_h G0 D xa σ τ (i := i) (by omega)) (k) (by omega) (by omega) (v := .null) (by show va_rf (if _ then _ else _) = _; rw [if_neg hkn]; rfl) dX4_livingHeir_26 ?_
        refine lv_astoreN (lv' := [(5, .null), (0, .ref (xa 10 i)), (1, .int (nI (2))), (2, .ref (xa 11 i)), (3, .int (nI (11))), (4, .int (nI (k)))]) hx hb dX4_livingHeir_27 hl (by decide) rfl (fun ls hl => ?_)
        have hl : lv_has ls 7 [(0, .ref (xa 10 i)), (1, .int (nI (2))), (2, .ref (xa 11 i)), (3, .int (nI (11))), (4, .int (nI (k))), (5, .null)] := lv_sub hl [1, 2, 3, 4, 5, 0] rfl
        refine lv_aloadN hx hb dX4_livingHeir_29 (lv_at hl 5 rfl) ?_
        refine lv_iload_n hx hb dX4_livingHeir_31 rfl (lv_at hl 1 rfl) ?_
        refine lv_iconst (v := nI (1)) hx hb dX4_livingHeir_32 (by decide +kernel) ?_
        refine lv_isub hx hb dX4_livingHeir_33 ?_
        rw [pk_sub (a := 2) (b := 1) (by omega)]
        refine xs_q (As := [.null, .int (nI (1))]) (rest := []) ⟨hx, hb, hml, hown, hts⟩ (c_X4_livingFor_1 l D sa xa G0 σ τ hg none (by intro j hj; cases hj)) (va_cwS 2 hts gX4_livingHeir_X4_livingFor rfl rfl rfl (by decide +kernel) ⟨Nat.le_of_ble_eq_true rfl, Nat.le_of_ble_eq_true rfl⟩) hW rfl rfl hl.1 (Nat.le_of_ble_eq_true rfl) dX4_livingHeir_34 ⟨Nat.le_of_ble_eq_true rfl, Nat.le_of_ble_eq_true rfl⟩ (fun r_34 xa1 G1 H locs hp hW => ?_)
        obtain ⟨hu, hr_34⟩ := hp
        cases hu
        refine x_astore (lv' := [(6, va_rf (r_34)), (0, .ref (xa 10 i)), (1, .int (nI (2))), (2, .ref (xa 11 i)), (3, .int (nI (11))), (4, .int (nI (k))), (5, .null)]) hx hb dX4_livingHeir_37 hl (by decide) rfl (fun ls hl => ?_)
        have hl : lv_has ls 7 [(0, .ref (xa 10 i)), (1, .int (nI (2))), (2, .ref (xa 11 i)), (3, .int (nI (11))), (4, .int (nI (k))), (5, .null), (6, va_rf (r_34))] := lv_sub hl [1, 2, 3, 4, 5, 6, 0] rfl
        refine x_aload (r := r_34) hx hb dX4_livingHeir_39 (lv_at hl 6 rfl) ?_
        refine x_ifnull (r := r_34) (tgt := 47) hx hb dX4_livingHeir_41 (by decide) (fun c_41 => ?_) (fun a_41 c_41 => ?_)
        · -- ifnull taken
          refine lv_iinc (v := nI (k + 1)) (lv' := [(4, .int (nI (k + 1))), (0, .ref (xa 10 i)), (1, .int (nI (2))), (2, .ref (xa 11 i)), (3, .int (nI (11))), (5, .null), (6, va_rf (r_34))]) hx hb dX4_livingHeir_47 hl (k := 4) rfl (x_inc k 1 rfl) (by decide) rfl (fun ls hl => ?_)
          have hl : lv_has ls 7 [(0, .ref (xa 10 i)), (1, .int (nI (2))), (2, .ref (xa 11 i)), (3, .int (nI (11))), (4, .int (nI (k + 1))), (5, .null), (6, va_rf (r_34))] := lv_sub hl [1, 2, 3, 4, 0, 5, 6] rfl
          refine lv_goto (tgt := 17) hx hb dX4_livingHeir_50 (by decide) ?_
          exact ih17 (11 - (k + 1)) (k + 1) _ _ _ (by omega) ⟨rfl, hW, lv_sub hl [0, 1, 2, 3, 4] rfl, ff_past hf (by omega), by (try dsimp only); omega⟩
        · -- ifnull not
          rw [hr_34] at c_41
          cases c_41
  · -- gt not
    have c_1 : ¬ (((0 : Int32)).toInt < (nI (2)).toInt) := fun h => c_1 (Int32.lt_iff_toInt_lt.mpr h)
    rw [nI_toInt (n := 2) (by omega)] at c_1
    rw [x_t0] at c_1
    omega

set_option maxHeartbeats 4000000 in
set_option maxRecDepth 100000 in
theorem c_X4_livingFor_2n (l : Launch) (D : xD) (sa : Nat → Nat) (xa : xA) (G0 : xG) (σ : Sg) (τ : Tg) (hg : Gd σ) : xCq l yX4_livingFor wsX4_livingFor ({ frames := 20, cells := 0, slots := 0, locals := 700 } : Room) D sa xa (xGs G0 D xa σ τ) [.null, .int (nI 2)] (fun r u => u = (xa, xGs G0 D xa σ τ) ∧ r = (lifd σ 2 none).map (xa 10)) 0 0 := by
  have hB := hg.1
  have h5 := hg.2.1.1
  have h7 := hg.2.1.2.1
  have h12 := hg.2.1.2.2.1
  have hy0 := hg.2.1.2.2.2.1
  have hy1 := hg.2.1.2.2.2.2
  have hm := hg.hm
  have hs8 := hg.hs8
  intro sz
  refine Met.ofW (cc := cX4_livingFor) (maxL := 2) (ret := (some (.object "Restitutory$Person"))) (by decide +kernel) rfl ?_
  intro p e s m args below meth c s₁ B hml hv
  obtain ⟨rfl, hsz, hv2⟩ := hv
  subst hsz
  have hx := B.exec
  have hb := B.bytes
  have hr := B.returns
  have hts := atoms_spec (ws := wsX4_livingFor) B.pre
  have hown : s.vm.findClass RX4 = some m.cls := findClass_of_methodNamed B.named
  have hlocks := B.notSynchronized
  have hin1 : ∀ w ∈ wsX10, w ∈ wsX4_livingFor := by decide +kernel
  have hW := xW.start (s := s) ⟨rfl, hv2⟩
  clear hv2
  generalize xAw xa (xGs G0 D xa σ τ) s.heap.size = A at hW ⊢
  have hl := lv_entry ([.null, .int (nI (2))]) (n := 2) (Nat.le_of_ble_eq_true rfl)
  rw [lg_entry_eq]
  generalize (lg_sl ([.null, .int (nI (2))]) ++ List.replicate (2 - (lg_sl ([.null, .int (nI (2))])).length) Slot.unset).toArray = ls at hl ⊢
  have hl : lv_has ls 2 [(0, .null), (1, .int (nI (2)))] := hl
  refine lv_aload_nN hx hb dX4_livingFor_0 rfl (lv_at hl 0 rfl) ?_
  refine lv_ifnullN (tgt := 11) hx hb dX4_livingFor_1 (by decide) ?_
  refine lv_aload_nN hx hb dX4_livingFor_11 rfl (lv_at hl 0 rfl) ?_
  exact xe_q (r := none) hx hb hr hlocks hW ⟨rfl, rfl⟩ (Nat.le_refl _) (Nat.le_refl _) dX4_livingFor_12

set_option maxHeartbeats 4000000 in
set_option maxRecDepth 100000 in
theorem c_X4_livingFor_2s (l : Launch) (D : xD) (sa : Nat → Nat) (xa : xA) (G0 : xG) (σ : Sg) (τ : Tg) (hg : Gd σ) (i : Nat) (hi : i < σ 5 0) : xCq l yX4_livingFor wsX4_livingFor ({ frames := 20, cells := 0, slots := 0, locals := 700 } : Room) D sa xa (xGs G0 D xa σ τ) [.ref (xa 10 i), .int (nI 2)] (fun r u => u = (xa, xGs G0 D xa σ τ) ∧ r = (lifd σ 2 (some i)).map (xa 10)) 0 0 := by
  have hB := hg.1
  have h5 := hg.2.1.1
  have h7 := hg.2.1.2.1
  have h12 := hg.2.1.2.2.1
  have hy0 := hg.2.1.2.2.2.1
  have hy1 := hg.2.1.2.2.2.2
  have hm := hg.hm
  have hs8 := hg.hs8
  intro sz
  refine Met.ofW (cc := cX4_livingFor) (maxL := 2) (ret := (some (.object "Restitutory$Person"))) (by decide +kernel) rfl ?_
  intro p e s m args below meth c s₁ B hml hv
  obtain ⟨rfl, hsz, hv2⟩ := hv
  subst hsz
  have hx := B.exec
  have hb := B.bytes
  have hr := B.returns
  have hts := atoms_spec (ws := wsX4_livingFor) B.pre
  have hown : s.vm.findClass RX4 = some m.cls := findClass_of_methodNamed B.named
  have hlocks := B.notSynchronized
  have hin1 : ∀ w ∈ wsX10, w ∈ wsX4_livingFor := by decide +kernel
  have hW := xW.start (s := s) ⟨rfl, hv2⟩
  clear hv2
  generalize xAw xa (xGs G0 D xa σ τ) s.heap.size = A at hW ⊢
  have hl := lv_entry ([.ref (xa 10 i), .int (nI (2))]) (n := 2) (Nat.le_of_ble_eq_true rfl)
  rw [lg_entry_eq]
  generalize (lg_sl ([.ref (xa 10 i), .int (nI (2))]) ++ List.replicate (2 - (lg_sl ([.ref (xa 10 i), .int (nI (2))])).length) Slot.unset).toArray = ls at hl ⊢
  have hl : lv_has ls 2 [(0, .ref (xa 10 i)), (1, .int (nI (2)))] := hl
  refine lv_aload_n hx hb dX4_livingFor_0 rfl (lv_at hl 0 rfl) ?_
  refine lv_ifnull hx hb dX4_livingFor_1 ?_
  refine lv_aload_n hx hb dX4_livingFor_4 rfl (lv_at hl 0 rfl) ?_
  refine x_get hx hb hts hin1 hown hW 10 i (xg_p G0 D xa σ τ (i := i) (by omega)) rfl 2 (by decide) (hts (.fieldLink RX4 56 "Restitutory$Person" "dead" "Z") (by decide +kernel)) rfl (v := .int (nI (σ 2 i))) (rfl) dX4_livingFor_5 ?_
  have b_5 := hB 2 i
  refine lv_if_ne (tgt := 13) hx hb dX4_livingFor_8 (by decide) (fun c_8 => ?_) (fun c_8 => ?_)
  · -- ne taken
    have c_8 : ¬ (σ 2 i = 0) := fun h_ => c_8 ((x_eqZ (a := σ 2 i) (by omega)).mpr h_)
    refine lv_aload_n hx hb dX4_livingFor_13 rfl (lv_at hl 0 rfl) ?_
    refine lv_iload_n hx hb dX4_livingFor_14 rfl (lv_at hl 1 rfl) ?_
    refine xs_q (As := [.ref (xa 10 i), .int (nI (2))]) (rest := []) ⟨hx, hb, hml, hown, hts⟩ (c_X4_livingHeir_2 l D sa xa G0 σ τ hg i hi) (va_cwS 2 hts gX4_livingFor_X4_livingHeir rfl rfl rfl (by decide +kernel) ⟨Nat.le_of_ble_eq_true rfl, Nat.le_of_ble_eq_true rfl⟩) hW rfl rfl hl.1 (Nat.le_of_ble_eq_true rfl) dX4_livingFor_15 ⟨Nat.le_of_ble_eq_true rfl, Nat.le_of_ble_eq_true rfl⟩ (fun r_15 xa1 G1 H locs hp hW => ?_)
    obtain ⟨hu, hr_15⟩ := hp
    cases hu
    exact xe_q (r := r_15) hx hb hr hlocks hW ⟨rfl, by unfold lifd; dsimp only; rw [if_neg c_8]; exact hr_15⟩ (Nat.le_refl _) (Nat.le_refl _) dX4_livingFor_18
  · -- ne not
    have c_8 := (x_eqZ (a := σ 2 i) (by omega)).mp c_8
    refine lv_aload_n hx hb dX4_livingFor_11 rfl (lv_at hl 0 rfl) ?_
    exact xe_q (r := some (xa 10 i)) hx hb hr hlocks hW ⟨rfl, by unfold lifd; dsimp only; rw [if_pos c_8]; rfl⟩ (Nat.le_refl _) (Nat.le_refl _) dX4_livingFor_12

theorem c_X4_livingFor_2 (l : Launch) (D : xD) (sa : Nat → Nat) (xa : xA) (G0 : xG) (σ : Sg) (τ : Tg) (hg : Gd σ) (o : Option Nat) (ho : ∀ i, o = some i → i < σ 5 0) : xCq l yX4_livingFor wsX4_livingFor ({ frames := 20, cells := 0, slots := 0, locals := 700 } : Room) D sa xa (xGs G0 D xa σ τ) [va_rf (o.map (xa 10)), .int (nI 2)] (fun r u => u = (xa, xGs G0 D xa σ τ) ∧ r = (lifd σ 2 o).map (xa 10)) 0 0 := by
  cases o with
  | none => exact c_X4_livingFor_2n l D sa xa G0 σ τ hg
  | some i => exact c_X4_livingFor_2s l D sa xa G0 σ τ hg i (ho i rfl)

set_option maxHeartbeats 4000000 in
set_option maxRecDepth 100000 in
theorem c_X4_livingHeir_3 (l : Launch) (D : xD) (sa : Nat → Nat) (xa : xA) (G0 : xG) (σ : Sg) (τ : Tg) (hg : Gd σ) (i : Nat) (hi : i < σ 5 0) : xCq l yX4_livingHeir wsX4_livingHeir ({ frames := 22, cells := 0, slots := 0, locals := 800 } : Room) D sa xa (xGs G0 D xa σ τ) [.ref (xa 10 i), .int (nI 3)] (fun r u => u = (xa, xGs G0 D xa σ τ) ∧ r = (fh σ 3 i).map (xa 10)) 0 0 := by
  have hB := hg.1
  have h5 := hg.2.1.1
  have h7 := hg.2.1.2.1
  have h12 := hg.2.1.2.2.1
  have hy0 := hg.2.1.2.2.2.1
  have hy1 := hg.2.1.2.2.2.2
  have hm := hg.hm
  have hs8 := hg.hs8
  intro sz
  refine Met.ofW (cc := cX4_livingHeir) (maxL := 7) (ret := (some (.object "Restitutory$Person"))) (by decide +kernel) rfl ?_
  intro p e s m args below meth c s₁ B hml hv
  obtain ⟨rfl, hsz, hv2⟩ := hv
  subst hsz
  have hx := B.exec
  have hb := B.bytes
  have hr := B.returns
  have hts := atoms_spec (ws := wsX4_livingHeir) B.pre
  have hown : s.vm.findClass RX4 = some m.cls := findClass_of_methodNamed B.named
  have hlocks := B.notSynchronized
  have hin1 : ∀ w ∈ wsX10, w ∈ wsX4_livingHeir := by decide +kernel
  have hW := xW.start (s := s) ⟨rfl, hv2⟩
  clear hv2
  generalize xAw xa (xGs G0 D xa σ τ) s.heap.size = A at hW ⊢
  have hl := lv_entry ([.ref (xa 10 i), .int (nI (3))]) (n := 7) (Nat.le_of_ble_eq_true rfl)
  rw [lg_entry_eq]
  generalize (lg_sl ([.ref (xa 10 i), .int (nI (3))]) ++ List.replicate (7 - (lg_sl ([.ref (xa 10 i), .int (nI (3))])).length) Slot.unset).toArray = ls at hl ⊢
  have hl : lv_has ls 7 [(0, .ref (xa 10 i)), (1, .int (nI (3)))] := hl
  refine lv_iload_n hx hb dX4_livingHeir_0 rfl (lv_at hl 1 rfl) ?_
  refine lv_if_gt (tgt := 6) hx hb dX4_livingHeir_1 (by decide) (fun c_1 => ?_) (fun c_1 => ?_)
  · -- gt taken
    have c_1 := Int32.lt_iff_toInt_lt.mp c_1
    rw [nI_toInt (n := 3) (by omega)] at c_1
    rw [x_t0] at c_1
    refine lv_aload_n hx hb dX4_livingHeir_6 rfl (lv_at hl 0 rfl) ?_
    refine x_get hx hb hts hin1 hown hW 10 i (xg_p G0 D xa σ τ (i := i) (by omega)) rfl 3 (by decide) (hts (.fieldLink RX4 74 "Restitutory$Person" "heirs" "[LRestitutory$Person;") (by decide +kernel)) rfl (v := .ref (xa 11 i)) (rfl) dX4_livingHeir_7 ?_
    refine lv_astore_n (lv' := [(2, .ref (xa 11 i)), (0, .ref (xa 10 i)), (1, .int (nI (3)))]) hx hb dX4_livingHeir_10 rfl hl (by decide) rfl (fun ls hl => ?_)
    have hl : lv_has ls 7 [(0, .ref (xa 10 i)), (1, .int (nI (3))), (2, .ref (xa 11 i))] := lv_sub hl [1, 2, 0] rfl
    refine lv_aload_n hx hb dX4_livingHeir_11 rfl (lv_at hl 2 rfl) ?_
    refine x_len hx hb hW 11 i 0 rfl (xg_h G0 D xa σ τ (i := i) (by omega)) (v := nI 11) rfl dX4_livingHeir_12 ?_
    refine lv_istore_n (lv' := [(3, .int (nI (11))), (0, .ref (xa 10 i)), (1, .int (nI (3))), (2, .ref (xa 11 i))]) hx hb dX4_livingHeir_13 rfl hl (by decide) rfl (fun ls hl => ?_)
    have hl : lv_has ls 7 [(0, .ref (xa 10 i)), (1, .int (nI (3))), (2, .ref (xa 11 i)), (3, .int (nI (11)))] := lv_sub hl [1, 2, 3, 0] rfl
    refine lv_iconst (v := nI (0)) hx hb dX4_livingHeir_14 (by decide +kernel) ?_
    refine lv_istore (lv' := [(4, .int (nI (0))), (0, .ref (xa 10 i)), (1, .int (nI (3))), (2, .ref (xa 11 i)), (3, .int (nI (11)))]) hx hb dX4_livingHeir_15 hl (by decide) rfl (fun ls hl => ?_)
    have hl : lv_has ls 7 [(0, .ref (xa 10 i)), (1, .int (nI (3))), (2, .ref (xa 11 i)), (3, .int (nI (11))), (4, .int (nI (0)))] := lv_sub hl [1, 2, 3, 4, 0] rfl
    refine x_loop (X := Nat) (I := fun n xv H locs ls => n = 11 - xv ∧ xW D sa A s xa (xGs G0 D xa σ τ) H locs ∧ lv_has ls 7 [(0, .ref (xa 10 i)), (1, .int (nI (3))), (2, .ref (xa 11 i)), (3, .int (nI (11))), (4, .int (nI (xv)))] ∧ (fh σ 3 i = ff (hg1 σ 2 i) xv (σ 4 i - xv)) ∧ (xv ≤ 11)) (hd := 17) ?_ (n := _) (x := (0)) ⟨rfl, hW, hl, fh_eq σ 2 i, by (try dsimp only); omega⟩
    rintro n k H locs ls ⟨hn, hW, hl, hf, hk⟩ ih17
    try dsimp only at hn hW hl hf hk
    refine lv_iload hx hb dX4_livingHeir_17 (lv_at hl 4 rfl) ?_
    refine lv_iload_n hx hb dX4_livingHeir_19 rfl (lv_at hl 3 rfl) ?_
    refine lv_icmp_ge (tgt := 53) hx hb dX4_livingHeir_20 (by decide) (fun c_20 => ?_) (fun c_20 => ?_)
    · -- ge taken
      have c_20 := Int32.le_iff_toInt_le.mp c_20
      rw [nI_toInt (n := k) (by omega)] at c_20
      rw [nI_toInt (n := 11) (by omega)] at c_20
      refine lv_null hx hb dX4_livingHeir_53 ?_
      exact xe_q (r := none) hx hb hr hlocks hW ⟨rfl, by rw [ff_end hf (by have := hm i; omega)]; rfl⟩ (Nat.le_refl _) (Nat.le_refl _) dX4_livingHeir_54
    · -- ge not
      have c_20 : ¬ ((nI (11)).toInt ≤ (nI (k)).toInt) := fun h => c_20 (Int32.le_iff_toInt_le.mpr h)
      rw [nI_toInt (n := k) (by omega)] at c_20
      rw [nI_toInt (n := 11) (by omega)] at c_20
      by_cases hkn : k < σ 4 i
      ·
        have hhr := hg.heir hi hkn
        refine lv_aload_n hx hb dX4_livingHeir_23 rfl (lv_at hl 2 rfl) ?_
        refine lv_iload hx hb dX4_livingHeir_24 (lv_at hl 4 rfl) ?_
        refine x_ald2 hx hb hW 11 i 0 rfl (xg_h G0 D xa σ τ (i := i) (by omega)) (k) (by omega) (by omega) (v := .ref (xa 10 (σ 3 (12 * i + k)))) (by show va_rf (if _ then _ else _) = _; rw [if_pos hkn]; rfl) dX4_livingHeir_26 ?_
        refine lv_astore (lv' := [(5, .ref (xa 10 (σ 3 (12 * i + k)))), (0, .ref (xa 10 i)), (1, .int (nI (3))), (2, .ref (xa 11 i)), (3, .int (nI (11))), (4, .int (nI (k)))]) hx hb dX4_livingHeir_27 hl (by decide) rfl (fun ls hl => ?_)
        have hl : lv_has ls 7 [(0, .ref (xa 10 i)), (1, .int (nI (3))), (2, .ref (xa 11 i)), (3, .int (nI (11))), (4, .int (nI (k))), (5, .ref (xa 10 (σ 3 (12 * i + k))))] := lv_sub hl [1, 2, 3, 4, 5, 0] rfl
        refine lv_aload hx hb dX4_livingHeir_29 (lv_at hl 5 rfl) ?_
        refine lv_iload_n hx hb dX4_livingHeir_31 rfl (lv_at hl 1 rfl) ?_
        refine lv_iconst (v := nI (1)) hx hb dX4_livingHeir_32 (by decide +kernel) ?_
        refine lv_isub hx hb dX4_livingHeir_33 ?_
        rw [pk_sub (a := 3) (b := 1) (by omega)]
        refine xs_q (As := [.ref (xa 10 (σ 3 (12 * i + k))), .int (nI (2))]) (rest := []) ⟨hx, hb, hml, hown, hts⟩ (c_X4_livingFor_2 l D sa xa G0 σ τ hg (some (σ 3 (12 * i + k))) (by intro j hj; cases hj; exact hhr)) (va_cwS 2 hts gX4_livingHeir_X4_livingFor rfl rfl rfl (by decide +kernel) ⟨Nat.le_of_ble_eq_true rfl, Nat.le_of_ble_eq_true rfl⟩) hW rfl rfl hl.1 (Nat.le_of_ble_eq_true rfl) dX4_livingHeir_34 ⟨Nat.le_of_ble_eq_true rfl, Nat.le_of_ble_eq_true rfl⟩ (fun r_34 xa1 G1 H locs hp hW => ?_)
        obtain ⟨hu, hr_34⟩ := hp
        cases hu
        refine x_astore (lv' := [(6, va_rf (r_34)), (0, .ref (xa 10 i)), (1, .int (nI (3))), (2, .ref (xa 11 i)), (3, .int (nI (11))), (4, .int (nI (k))), (5, .ref (xa 10 (σ 3 (12 * i + k))))]) hx hb dX4_livingHeir_37 hl (by decide) rfl (fun ls hl => ?_)
        have hl : lv_has ls 7 [(0, .ref (xa 10 i)), (1, .int (nI (3))), (2, .ref (xa 11 i)), (3, .int (nI (11))), (4, .int (nI (k))), (5, .ref (xa 10 (σ 3 (12 * i + k)))), (6, va_rf (r_34))] := lv_sub hl [1, 2, 3, 4, 5, 6, 0] rfl
        refine x_aload (r := r_34) hx hb dX4_livingHeir_39 (lv_at hl 6 rfl) ?_
        refine x_ifnull (r := r_34) (tgt := 47) hx hb dX4_livingHeir_41 (by decide) (fun c_41 => ?_) (fun a_41 c_41 => ?_)
        · -- ifnull taken
          have hnone : hg1 σ 2 i k = none := by
            rw [hr_34] at c_41
            show lifd σ 2 (some _) = none
            cases hq : lifd σ 2 (some (σ 3 (12 * i + k))) with
            | none => rfl
            | some b => rw [hq] at c_41; cases c_41
          refine lv_iinc (v := nI (k + 1)) (lv' := [(4, .int (nI (k + 1))), (0, .ref (xa 10 i)), (1, .int (nI (3))), (2, .ref (xa 11 i)), (3, .int (nI (11))), (5, .ref (xa 10 (σ 3 (12 * i + k)))), (6, va_rf (r_34))]) hx hb dX4_livingHeir_47 hl (k := 4) rfl (x_inc k 1 rfl) (by decide) rfl (fun ls hl => ?_)
          have hl : lv_has ls 7 [(0, .ref (xa 10 i)), (1, .int (nI (3))), (2, .ref (xa 11 i)), (3, .int (nI (11))), (4, .int (nI (k + 1))), (5, .ref (xa 10 (σ 3 (12 * i + k)))), (6, va_rf (r_34))] := lv_sub hl [1, 2, 3, 4, 0, 5, 6] rfl
          refine lv_goto (tgt := 17) hx hb dX4_livingHeir_50 (by decide) ?_
          exact ih17 (11 - (k + 1)) (k + 1) _ _ _ (by omega) ⟨rfl, hW, lv_sub hl [0, 1, 2, 3, 4] rfl, ff_none hf hkn hnone, by (try dsimp only); omega⟩
        · -- ifnull not
          have hsome : fh σ 3 i = lifd σ 2 (some (σ 3 (12 * i + k))) := by
            cases hq : lifd σ 2 (some (σ 3 (12 * i + k))) with
            | none => rw [hr_34, hq] at c_41; cases c_41
            | some b => exact ff_some hf hkn hq
          refine x_aload (r := r_34) hx hb dX4_livingHeir_44 (lv_at hl 6 rfl) ?_
          exact xe_q (r := r_34) hx hb hr hlocks hW ⟨rfl, by rw [hsome]; exact hr_34⟩ (Nat.le_refl _) (Nat.le_refl _) dX4_livingHeir_46
      ·
        refine lv_aload_n hx hb dX4_livingHeir_23 rfl (lv_at hl 2 rfl) ?_
        refine lv_iload hx hb dX4_livingHeir_24 (lv_at hl 4 rfl) ?_
        refine x_ald2 hx hb hW 11 i 0 rfl (xg_h G0 D xa σ τ (i := i) (by omega)) (k) (by omega) (by omega) (v := .null) (by show va_rf (if _ then _ else _) = _; rw [if_neg hkn]; rfl) dX4_livingHeir_26 ?_
        refine lv_astoreN (lv' := [(5, .null), (0, .ref (xa 10 i)), (1, .int (nI (3))), (2, .ref (xa 11 i)), (3, .int (nI (11))), (4, .int (nI (k)))]) hx hb dX4_livingHeir_27 hl (by decide) rfl (fun ls hl => ?_)
        have hl : lv_has ls 7 [(0, .ref (xa 10 i)), (1, .int (nI (3))), (2, .ref (xa 11 i)), (3, .int (nI (11))), (4, .int (nI (k))), (5, .null)] := lv_sub hl [1, 2, 3, 4, 5, 0] rfl
        refine lv_aloadN hx hb dX4_livingHeir_29 (lv_at hl 5 rfl) ?_
        refine lv_iload_n hx hb dX4_livingHeir_31 rfl (lv_at hl 1 rfl) ?_
        refine lv_iconst (v := nI (1)) hx hb dX4_livingHeir_32 (by decide +kernel) ?_
        refine lv_isub hx hb dX4_livingHeir_33 ?_
        rw [pk_sub (a := 3) (b := 1) (by omega)]
        refine xs_q (As := [.null, .int (nI (2))]) (rest := []) ⟨hx, hb, hml, hown, hts⟩ (c_X4_livingFor_2 l D sa xa G0 σ τ hg none (by intro j hj; cases hj)) (va_cwS 2 hts gX4_livingHeir_X4_livingFor rfl rfl rfl (by decide +kernel) ⟨Nat.le_of_ble_eq_true rfl, Nat.le_of_ble_eq_true rfl⟩) hW rfl rfl hl.1 (Nat.le_of_ble_eq_true rfl) dX4_livingHeir_34 ⟨Nat.le_of_ble_eq_true rfl, Nat.le_of_ble_eq_true rfl⟩ (fun r_34 xa1 G1 H locs hp hW => ?_)
        obtain ⟨hu, hr_34⟩ := hp
        cases hu
        refine x_astore (lv' := [(6, va_rf (r_34)), (0, .ref (xa 10 i)), (1, .int (nI (3))), (2, .ref (xa 11 i)), (3, .int (nI (11))), (4, .int (nI (k))), (5, .null)]) hx hb dX4_livingHeir_37 hl (by decide) rfl (fun ls hl => ?_)
        have hl : lv_has ls 7 [(0, .ref (xa 10 i)), (1, .int (nI (3))), (2, .ref (xa 11 i)), (3, .int (nI (11))), (4, .int (nI (k))), (5, .null), (6, va_rf (r_34))] := lv_sub hl [1, 2, 3, 4, 5, 6, 0] rfl
        refine x_aload (r := r_34) hx hb dX4_livingHeir_39 (lv_at hl 6 rfl) ?_
        refine x_ifnull (r := r_34) (tgt := 47) hx hb dX4_livingHeir_41 (by decide) (fun c_41 => ?_) (fun a_41 c_41 => ?_)
        · -- ifnull taken
          refine lv_iinc (v := nI (k + 1)) (lv' := [(4, .int (nI (k + 1))), (0, .ref (xa 10 i)), (1, .int (nI (3))), (2, .ref (xa 11 i)), (3, .int (nI (11))), (5, .null), (6, va_rf (r_34))]) hx hb dX4_livingHeir_47 hl (k := 4) rfl (x_inc k 1 rfl) (by decide) rfl (fun ls hl => ?_)
          have hl : lv_has ls 7 [(0, .ref (xa 10 i)), (1, .int (nI (3))), (2, .ref (xa 11 i)), (3, .int (nI (11))), (4, .int (nI (k + 1))), (5, .null), (6, va_rf (r_34))] := lv_sub hl [1, 2, 3, 4, 0, 5, 6] rfl
          refine lv_goto (tgt := 17) hx hb dX4_livingHeir_50 (by decide) ?_
          exact ih17 (11 - (k + 1)) (k + 1) _ _ _ (by omega) ⟨rfl, hW, lv_sub hl [0, 1, 2, 3, 4] rfl, ff_past hf (by omega), by (try dsimp only); omega⟩
        · -- ifnull not
          rw [hr_34] at c_41
          cases c_41
  · -- gt not
    have c_1 : ¬ (((0 : Int32)).toInt < (nI (3)).toInt) := fun h => c_1 (Int32.lt_iff_toInt_lt.mpr h)
    rw [nI_toInt (n := 3) (by omega)] at c_1
    rw [x_t0] at c_1
    omega

set_option maxHeartbeats 4000000 in
set_option maxRecDepth 100000 in
theorem c_X4_livingFor_3n (l : Launch) (D : xD) (sa : Nat → Nat) (xa : xA) (G0 : xG) (σ : Sg) (τ : Tg) (hg : Gd σ) : xCq l yX4_livingFor wsX4_livingFor ({ frames := 24, cells := 0, slots := 0, locals := 900 } : Room) D sa xa (xGs G0 D xa σ τ) [.null, .int (nI 3)] (fun r u => u = (xa, xGs G0 D xa σ τ) ∧ r = (lifd σ 3 none).map (xa 10)) 0 0 := by
  have hB := hg.1
  have h5 := hg.2.1.1
  have h7 := hg.2.1.2.1
  have h12 := hg.2.1.2.2.1
  have hy0 := hg.2.1.2.2.2.1
  have hy1 := hg.2.1.2.2.2.2
  have hm := hg.hm
  have hs8 := hg.hs8
  intro sz
  refine Met.ofW (cc := cX4_livingFor) (maxL := 2) (ret := (some (.object "Restitutory$Person"))) (by decide +kernel) rfl ?_
  intro p e s m args below meth c s₁ B hml hv
  obtain ⟨rfl, hsz, hv2⟩ := hv
  subst hsz
  have hx := B.exec
  have hb := B.bytes
  have hr := B.returns
  have hts := atoms_spec (ws := wsX4_livingFor) B.pre
  have hown : s.vm.findClass RX4 = some m.cls := findClass_of_methodNamed B.named
  have hlocks := B.notSynchronized
  have hin1 : ∀ w ∈ wsX10, w ∈ wsX4_livingFor := by decide +kernel
  have hW := xW.start (s := s) ⟨rfl, hv2⟩
  clear hv2
  generalize xAw xa (xGs G0 D xa σ τ) s.heap.size = A at hW ⊢
  have hl := lv_entry ([.null, .int (nI (3))]) (n := 2) (Nat.le_of_ble_eq_true rfl)
  rw [lg_entry_eq]
  generalize (lg_sl ([.null, .int (nI (3))]) ++ List.replicate (2 - (lg_sl ([.null, .int (nI (3))])).length) Slot.unset).toArray = ls at hl ⊢
  have hl : lv_has ls 2 [(0, .null), (1, .int (nI (3)))] := hl
  refine lv_aload_nN hx hb dX4_livingFor_0 rfl (lv_at hl 0 rfl) ?_
  refine lv_ifnullN (tgt := 11) hx hb dX4_livingFor_1 (by decide) ?_
  refine lv_aload_nN hx hb dX4_livingFor_11 rfl (lv_at hl 0 rfl) ?_
  exact xe_q (r := none) hx hb hr hlocks hW ⟨rfl, rfl⟩ (Nat.le_refl _) (Nat.le_refl _) dX4_livingFor_12

set_option maxHeartbeats 4000000 in
set_option maxRecDepth 100000 in
theorem c_X4_livingFor_3s (l : Launch) (D : xD) (sa : Nat → Nat) (xa : xA) (G0 : xG) (σ : Sg) (τ : Tg) (hg : Gd σ) (i : Nat) (hi : i < σ 5 0) : xCq l yX4_livingFor wsX4_livingFor ({ frames := 24, cells := 0, slots := 0, locals := 900 } : Room) D sa xa (xGs G0 D xa σ τ) [.ref (xa 10 i), .int (nI 3)] (fun r u => u = (xa, xGs G0 D xa σ τ) ∧ r = (lifd σ 3 (some i)).map (xa 10)) 0 0 := by
  have hB := hg.1
  have h5 := hg.2.1.1
  have h7 := hg.2.1.2.1
  have h12 := hg.2.1.2.2.1
  have hy0 := hg.2.1.2.2.2.1
  have hy1 := hg.2.1.2.2.2.2
  have hm := hg.hm
  have hs8 := hg.hs8
  intro sz
  refine Met.ofW (cc := cX4_livingFor) (maxL := 2) (ret := (some (.object "Restitutory$Person"))) (by decide +kernel) rfl ?_
  intro p e s m args below meth c s₁ B hml hv
  obtain ⟨rfl, hsz, hv2⟩ := hv
  subst hsz
  have hx := B.exec
  have hb := B.bytes
  have hr := B.returns
  have hts := atoms_spec (ws := wsX4_livingFor) B.pre
  have hown : s.vm.findClass RX4 = some m.cls := findClass_of_methodNamed B.named
  have hlocks := B.notSynchronized
  have hin1 : ∀ w ∈ wsX10, w ∈ wsX4_livingFor := by decide +kernel
  have hW := xW.start (s := s) ⟨rfl, hv2⟩
  clear hv2
  generalize xAw xa (xGs G0 D xa σ τ) s.heap.size = A at hW ⊢
  have hl := lv_entry ([.ref (xa 10 i), .int (nI (3))]) (n := 2) (Nat.le_of_ble_eq_true rfl)
  rw [lg_entry_eq]
  generalize (lg_sl ([.ref (xa 10 i), .int (nI (3))]) ++ List.replicate (2 - (lg_sl ([.ref (xa 10 i), .int (nI (3))])).length) Slot.unset).toArray = ls at hl ⊢
  have hl : lv_has ls 2 [(0, .ref (xa 10 i)), (1, .int (nI (3)))] := hl
  refine lv_aload_n hx hb dX4_livingFor_0 rfl (lv_at hl 0 rfl) ?_
  refine lv_ifnull hx hb dX4_livingFor_1 ?_
  refine lv_aload_n hx hb dX4_livingFor_4 rfl (lv_at hl 0 rfl) ?_
  refine x_get hx hb hts hin1 hown hW 10 i (xg_p G0 D xa σ τ (i := i) (by omega)) rfl 2 (by decide) (hts (.fieldLink RX4 56 "Restitutory$Person" "dead" "Z") (by decide +kernel)) rfl (v := .int (nI (σ 2 i))) (rfl) dX4_livingFor_5 ?_
  have b_5 := hB 2 i
  refine lv_if_ne (tgt := 13) hx hb dX4_livingFor_8 (by decide) (fun c_8 => ?_) (fun c_8 => ?_)
  · -- ne taken
    have c_8 : ¬ (σ 2 i = 0) := fun h_ => c_8 ((x_eqZ (a := σ 2 i) (by omega)).mpr h_)
    refine lv_aload_n hx hb dX4_livingFor_13 rfl (lv_at hl 0 rfl) ?_
    refine lv_iload_n hx hb dX4_livingFor_14 rfl (lv_at hl 1 rfl) ?_
    refine xs_q (As := [.ref (xa 10 i), .int (nI (3))]) (rest := []) ⟨hx, hb, hml, hown, hts⟩ (c_X4_livingHeir_3 l D sa xa G0 σ τ hg i hi) (va_cwS 2 hts gX4_livingFor_X4_livingHeir rfl rfl rfl (by decide +kernel) ⟨Nat.le_of_ble_eq_true rfl, Nat.le_of_ble_eq_true rfl⟩) hW rfl rfl hl.1 (Nat.le_of_ble_eq_true rfl) dX4_livingFor_15 ⟨Nat.le_of_ble_eq_true rfl, Nat.le_of_ble_eq_true rfl⟩ (fun r_15 xa1 G1 H locs hp hW => ?_)
    obtain ⟨hu, hr_15⟩ := hp
    cases hu
    exact xe_q (r := r_15) hx hb hr hlocks hW ⟨rfl, by unfold lifd; dsimp only; rw [if_neg c_8]; exact hr_15⟩ (Nat.le_refl _) (Nat.le_refl _) dX4_livingFor_18
  · -- ne not
    have c_8 := (x_eqZ (a := σ 2 i) (by omega)).mp c_8
    refine lv_aload_n hx hb dX4_livingFor_11 rfl (lv_at hl 0 rfl) ?_
    exact xe_q (r := some (xa 10 i)) hx hb hr hlocks hW ⟨rfl, by unfold lifd; dsimp only; rw [if_pos c_8]; rfl⟩ (Nat.le_refl _) (Nat.le_refl _) dX4_livingFor_12

theorem c_X4_livingFor_3 (l : Launch) (D : xD) (sa : Nat → Nat) (xa : xA) (G0 : xG) (σ : Sg) (τ : Tg) (hg : Gd σ) (o : Option Nat) (ho : ∀ i, o = some i → i < σ 5 0) : xCq l yX4_livingFor wsX4_livingFor ({ frames := 24, cells := 0, slots := 0, locals := 900 } : Room) D sa xa (xGs G0 D xa σ τ) [va_rf (o.map (xa 10)), .int (nI 3)] (fun r u => u = (xa, xGs G0 D xa σ τ) ∧ r = (lifd σ 3 o).map (xa 10)) 0 0 := by
  cases o with
  | none => exact c_X4_livingFor_3n l D sa xa G0 σ τ hg
  | some i => exact c_X4_livingFor_3s l D sa xa G0 σ τ hg i (ho i rfl)

set_option maxHeartbeats 4000000 in
set_option maxRecDepth 100000 in
theorem c_X4_takesAway (l : Launch) (D : xD) (sa : Nat → Nat) (xa : xA) (G0 : xG) (σ : Sg) (τ : Tg) (hg : Gd σ) (hL : LL σ τ) (i q : Nat) (hi : i < σ 12 0) (hq : q < σ 11 i) : xCi l yX4_takesAway wsX4_takesAway ({ frames := 14, cells := 0, slots := 0, locals := 400 } : Room) D sa xa (xGs G0 D xa σ τ) [.ref (xa 0 0), .ref (xa 15 (8 * i + ordr σ i q))] (fun r u => u = (xa, xGs G0 D xa σ τ) ∧ tv r (lossO σ i (ordr σ i) q)) 0 0 := by
  have hB := hg.1
  have h5 := hg.2.1.1
  have h7 := hg.2.1.2.1
  have h12 := hg.2.1.2.2.1
  have hy0 := hg.2.1.2.2.2.1
  have hy1 := hg.2.1.2.2.2.2
  have hm := hg.hm
  have hs8 := hg.hs8
  intro sz
  refine Met.ofW (cc := cX4_takesAway) (maxL := 3) (ret := (some .boolean)) (by decide +kernel) rfl ?_
  intro p e s m args below meth c s₁ B hml hv
  obtain ⟨rfl, hsz, hv2⟩ := hv
  subst hsz
  have hx := B.exec
  have hb := B.bytes
  have hr := B.returns
  have hts := atoms_spec (ws := wsX4_takesAway) B.pre
  have hown : s.vm.findClass RX4 = some m.cls := findClass_of_methodNamed B.named
  have hlocks := B.notSynchronized
  have hin2 : ∀ w ∈ wsX20, w ∈ wsX4_takesAway := by decide +kernel
  have hin4 : ∀ w ∈ wsX40, w ∈ wsX4_takesAway := by decide +kernel
  have hin1 : ∀ w ∈ wsX10, w ∈ wsX4_takesAway := by decide +kernel
  have hin0 : ∀ w ∈ wsX00, w ∈ wsX4_takesAway := by decide +kernel
  have hW := xW.start (s := s) ⟨rfl, hv2⟩
  clear hv2
  generalize xAw xa (xGs G0 D xa σ τ) s.heap.size = A at hW ⊢
  have hl := lv_entry ([.ref (xa 0 0), .ref (xa 15 (8 * i + ordr σ i q))]) (n := 3) (Nat.le_of_ble_eq_true rfl)
  rw [lg_entry_eq]
  generalize (lg_sl ([.ref (xa 0 0), .ref (xa 15 (8 * i + ordr σ i q))]) ++ List.replicate (3 - (lg_sl ([.ref (xa 0 0), .ref (xa 15 (8 * i + ordr σ i q))])).length) Slot.unset).toArray = ls at hl ⊢
  have hl : lv_has ls 3 [(0, .ref (xa 0 0)), (1, .ref (xa 15 (8 * i + ordr σ i q)))] := hl
  have hst := fun k hk => (hg.2.2.2.2.1 i hi).2.2 k hk
  have sj := hst _ (ordr_lt hq)
  have h8 := hs8 i
  have hll := (hL i hi).2.2 q hq
  by_cases hc0 : q = 0
  ·
    have hτ := hll.1
    rw [if_pos hc0] at hτ
    refine lv_aload_n hx hb dX4_takesAway_0 rfl (lv_at hl 1 rfl) ?_
    refine x_get hx hb hts hin2 hown hW 15 (8 * i + ordr σ i q) (xg_s G0 D xa σ τ (i := 8 * i + ordr σ i q) (lvS_of (by omega) (ordr_lt (by omega)) (hs8 _))) rfl 7 (by decide) (hts (.fieldLink RX4 210 "Restitutory$Station" "ahead" "LRestitutory$Station;") (by decide +kernel)) rfl (v := .null) (by show some (va_rf ((τ 3 _).map (xa 15))) = _; rw [hτ]; rfl) dX4_takesAway_1 ?_
    refine lv_astore_nN (lv' := [(2, .null), (0, .ref (xa 0 0)), (1, .ref (xa 15 (8 * i + ordr σ i q)))]) hx hb dX4_takesAway_4 rfl hl (by decide) rfl (fun ls hl => ?_)
    have hl : lv_has ls 3 [(0, .ref (xa 0 0)), (1, .ref (xa 15 (8 * i + ordr σ i q))), (2, .null)] := lv_sub hl [1, 2, 0] rfl
    refine lv_aload_nN hx hb dX4_takesAway_5 rfl (lv_at hl 2 rfl) ?_
    refine lv_ifnonnullN hx hb dX4_takesAway_6 ?_
    refine lv_iconst (v := nI (0)) hx hb dX4_takesAway_9 (by decide +kernel) ?_
    exact xe_i hx hb hr rfl hlocks hW ⟨rfl, tv.zero (fun h => h.1 hc0)⟩ (Nat.le_of_ble_eq_true rfl) (Nat.le_of_ble_eq_true rfl) dX4_takesAway_10
  ·
    have hτ := hll.1
    rw [if_neg hc0] at hτ
    have sja := hst _ (ordr_lt (σ := σ) (i := i) (q := q - 1) (by omega))
    refine lv_aload_n hx hb dX4_takesAway_0 rfl (lv_at hl 1 rfl) ?_
    refine x_get hx hb hts hin2 hown hW 15 (8 * i + ordr σ i q) (xg_s G0 D xa σ τ (i := 8 * i + ordr σ i q) (lvS_of (by omega) (ordr_lt (by omega)) (hs8 _))) rfl 7 (by decide) (hts (.fieldLink RX4 210 "Restitutory$Station" "ahead" "LRestitutory$Station;") (by decide +kernel)) rfl (v := .ref (xa 15 (8 * i + ordr σ i (q - 1)))) (by show some (va_rf ((τ 3 _).map (xa 15))) = _; rw [hτ]; rfl) dX4_takesAway_1 ?_
    refine lv_astore_n (lv' := [(2, .ref (xa 15 (8 * i + ordr σ i (q - 1)))), (0, .ref (xa 0 0)), (1, .ref (xa 15 (8 * i + ordr σ i q)))]) hx hb dX4_takesAway_4 rfl hl (by decide) rfl (fun ls hl => ?_)
    have hl : lv_has ls 3 [(0, .ref (xa 0 0)), (1, .ref (xa 15 (8 * i + ordr σ i q))), (2, .ref (xa 15 (8 * i + ordr σ i (q - 1))))] := lv_sub hl [1, 2, 0] rfl
    refine lv_aload_n hx hb dX4_takesAway_5 rfl (lv_at hl 2 rfl) ?_
    refine lv_ifnonnull (tgt := 11) hx hb dX4_takesAway_6 (by decide) ?_
    refine lv_aload_n hx hb dX4_takesAway_11 rfl (lv_at hl 1 rfl) ?_
    refine x_get hx hb hts hin2 hown hW 15 (8 * i + ordr σ i q) (xg_s G0 D xa σ τ (i := 8 * i + ordr σ i q) (lvS_of (by omega) (ordr_lt (by omega)) (hs8 _))) rfl 2 (by decide) (hts (.fieldLink RX4 130 "Restitutory$Station" "kind" "I") (by decide +kernel)) rfl (v := .int (nI (σ 14 (8 * i + ordr σ i q)))) (rfl) dX4_takesAway_12 ?_
    have b_12 := hB 14 (8 * i + ordr σ i q)
    refine lv_if_ne (tgt := 50) hx hb dX4_takesAway_15 (by decide) (fun c_15 => ?_) (fun c_15 => ?_)
    · -- ne taken
      have c_15 : ¬ (σ 14 (8 * i + ordr σ i q) = 0) := fun h_ => c_15 ((x_eqZ (a := σ 14 (8 * i + ordr σ i q)) (by omega)).mpr h_)
      refine lv_aload_n hx hb dX4_takesAway_50 rfl (lv_at hl 1 rfl) ?_
      refine x_get hx hb hts hin2 hown hW 15 (8 * i + ordr σ i q) (xg_s G0 D xa σ τ (i := 8 * i + ordr σ i q) (lvS_of (by omega) (ordr_lt (by omega)) (hs8 _))) rfl 2 (by decide) (hts (.fieldLink RX4 130 "Restitutory$Station" "kind" "I") (by decide +kernel)) rfl (v := .int (nI (σ 14 (8 * i + ordr σ i q)))) (rfl) dX4_takesAway_51 ?_
      have b_51 := hB 14 (8 * i + ordr σ i q)
      refine lv_iconst (v := nI (3)) hx hb dX4_takesAway_54 (by decide +kernel) ?_
      refine lv_icmp_eq (tgt := 74) hx hb dX4_takesAway_55 (by decide) (fun c_55 => ?_) (fun c_55 => ?_)
      · -- eq taken
        have c_55 := (x_eqN (a := σ 14 (8 * i + ordr σ i q)) (b := 3) (by omega) (by omega)).mp c_55
        refine lv_iconst (v := nI (1)) hx hb dX4_takesAway_74 (by decide +kernel) ?_
        refine lv_goto (tgt := 79) hx hb dX4_takesAway_75 (by decide) ?_
        exact xe_i hx hb hr rfl hlocks hW ⟨rfl, tv.one ⟨hc0, Or.inl (by omega)⟩⟩ (Nat.le_of_ble_eq_true rfl) (Nat.le_of_ble_eq_true rfl) dX4_takesAway_79
      · -- eq not
        have c_55 : ¬ (σ 14 (8 * i + ordr σ i q) = 3) := fun h_ => c_55 ((x_eqN (a := σ 14 (8 * i + ordr σ i q)) (b := 3) (by omega) (by omega)).mpr h_)
        refine lv_aload_n hx hb dX4_takesAway_58 rfl (lv_at hl 1 rfl) ?_
        refine x_get hx hb hts hin2 hown hW 15 (8 * i + ordr σ i q) (xg_s G0 D xa σ τ (i := 8 * i + ordr σ i q) (lvS_of (by omega) (ordr_lt (by omega)) (hs8 _))) rfl 2 (by decide) (hts (.fieldLink RX4 130 "Restitutory$Station" "kind" "I") (by decide +kernel)) rfl (v := .int (nI (σ 14 (8 * i + ordr σ i q)))) (rfl) dX4_takesAway_59 ?_
        have b_59 := hB 14 (8 * i + ordr σ i q)
        refine lv_iconst (v := nI (4)) hx hb dX4_takesAway_62 (by decide +kernel) ?_
        refine lv_icmp_eq (tgt := 74) hx hb dX4_takesAway_63 (by decide) (fun c_63 => ?_) (fun c_63 => ?_)
        · -- eq taken
          have c_63 := (x_eqN (a := σ 14 (8 * i + ordr σ i q)) (b := 4) (by omega) (by omega)).mp c_63
          refine lv_iconst (v := nI (1)) hx hb dX4_takesAway_74 (by decide +kernel) ?_
          refine lv_goto (tgt := 79) hx hb dX4_takesAway_75 (by decide) ?_
          exact xe_i hx hb hr rfl hlocks hW ⟨rfl, tv.one ⟨hc0, Or.inl (by omega)⟩⟩ (Nat.le_of_ble_eq_true rfl) (Nat.le_of_ble_eq_true rfl) dX4_takesAway_79
        · -- eq not
          have c_63 : ¬ (σ 14 (8 * i + ordr σ i q) = 4) := fun h_ => c_63 ((x_eqN (a := σ 14 (8 * i + ordr σ i q)) (b := 4) (by omega) (by omega)).mpr h_)
          refine lv_aload_n hx hb dX4_takesAway_66 rfl (lv_at hl 1 rfl) ?_
          refine x_get hx hb hts hin2 hown hW 15 (8 * i + ordr σ i q) (xg_s G0 D xa σ τ (i := 8 * i + ordr σ i q) (lvS_of (by omega) (ordr_lt (by omega)) (hs8 _))) rfl 2 (by decide) (hts (.fieldLink RX4 130 "Restitutory$Station" "kind" "I") (by decide +kernel)) rfl (v := .int (nI (σ 14 (8 * i + ordr σ i q)))) (rfl) dX4_takesAway_67 ?_
          have b_67 := hB 14 (8 * i + ordr σ i q)
          refine lv_iconst (v := nI (5)) hx hb dX4_takesAway_70 (by decide +kernel) ?_
          refine lv_icmp_ne (tgt := 78) hx hb dX4_takesAway_71 (by decide) (fun c_71 => ?_) (fun c_71 => ?_)
          · -- ne taken
            have c_71 : ¬ (σ 14 (8 * i + ordr σ i q) = 5) := fun h_ => c_71 ((x_eqN (a := σ 14 (8 * i + ordr σ i q)) (b := 5) (by omega) (by omega)).mpr h_)
            refine lv_iconst (v := nI (0)) hx hb dX4_takesAway_78 (by decide +kernel) ?_
            exact xe_i hx hb hr rfl hlocks hW ⟨rfl, tv.zero (fun h => h.2.elim (fun h1 => by omega) (fun h1 => c_15 h1.1))⟩ (Nat.le_of_ble_eq_true rfl) (Nat.le_of_ble_eq_true rfl) dX4_takesAway_79
          · -- ne not
            have c_71 := (x_eqN (a := σ 14 (8 * i + ordr σ i q)) (b := 5) (by omega) (by omega)).mp c_71
            refine lv_iconst (v := nI (1)) hx hb dX4_takesAway_74 (by decide +kernel) ?_
            refine lv_goto (tgt := 79) hx hb dX4_takesAway_75 (by decide) ?_
            exact xe_i hx hb hr rfl hlocks hW ⟨rfl, tv.one ⟨hc0, Or.inl (by omega)⟩⟩ (Nat.le_of_ble_eq_true rfl) (Nat.le_of_ble_eq_true rfl) dX4_takesAway_79
    · -- ne not
      have c_15 := (x_eqZ (a := σ 14 (8 * i + ordr σ i q)) (by omega)).mp c_15
      refine lv_aload_n hx hb dX4_takesAway_18 rfl (lv_at hl 1 rfl) ?_
      refine x_get hx hb hts hin2 hown hW 15 (8 * i + ordr σ i q) (xg_s G0 D xa σ τ (i := 8 * i + ordr σ i q) (lvS_of (by omega) (ordr_lt (by omega)) (hs8 _))) rfl 5 (by decide) (hts (.fieldLink RX4 135 "Restitutory$Station" "rebutted" "Z") (by decide +kernel)) rfl (v := .int (nI (σ 17 (8 * i + ordr σ i q)))) (rfl) dX4_takesAway_19 ?_
      have b_19 := hB 17 (8 * i + ordr σ i q)
      refine lv_if_ne (tgt := 48) hx hb dX4_takesAway_22 (by decide) (fun c_22 => ?_) (fun c_22 => ?_)
      · -- ne taken
        have c_22 : ¬ (σ 17 (8 * i + ordr σ i q) = 0) := fun h_ => c_22 ((x_eqZ (a := σ 17 (8 * i + ordr σ i q)) (by omega)).mpr h_)
        refine lv_iconst (v := nI (0)) hx hb dX4_takesAway_48 (by decide +kernel) ?_
        exact xe_i hx hb hr rfl hlocks hW ⟨rfl, tv.zero (fun h => h.2.elim (fun h1 => by omega) (fun h1 => c_22 h1.2.1))⟩ (Nat.le_of_ble_eq_true rfl) (Nat.le_of_ble_eq_true rfl) dX4_takesAway_49
      · -- ne not
        have c_22 := (x_eqZ (a := σ 17 (8 * i + ordr σ i q)) (by omega)).mp c_22
        refine lv_aload_n hx hb dX4_takesAway_25 rfl (lv_at hl 0 rfl) ?_
        refine lv_aload_n hx hb dX4_takesAway_26 rfl (lv_at hl 2 rfl) ?_
        refine x_get hx hb hts hin2 hown hW 15 (8 * i + ordr σ i (q - 1)) (xg_s G0 D xa σ τ (i := 8 * i + ordr σ i (q - 1)) (lvS_of (by omega) (ordr_lt (by omega)) (hs8 _))) rfl 1 (by decide) (hts (.fieldLink RX4 213 "Restitutory$Station" "party" "LRestitutory$Person;") (by decide +kernel)) rfl (v := .ref (xa 10 (σ 13 (8 * i + ordr σ i (q - 1))))) (rfl) dX4_takesAway_27 ?_
        refine lv_aload_n hx hb dX4_takesAway_30 rfl (lv_at hl 1 rfl) ?_
        refine x_get hx hb hts hin2 hown hW 15 (8 * i + ordr σ i q) (xg_s G0 D xa σ τ (i := 8 * i + ordr σ i q) (lvS_of (by omega) (ordr_lt (by omega)) (hs8 _))) rfl 3 (by decide) (hts (.fieldLink RX4 217 "Restitutory$Station" "land" "I") (by decide +kernel)) rfl (v := .int (nI (σ 15 (8 * i + ordr σ i q)))) (rfl) dX4_takesAway_31 ?_
        have b_31 := hB 15 (8 * i + ordr σ i q)
        refine lv_aload_n hx hb dX4_takesAway_34 rfl (lv_at hl 1 rfl) ?_
        refine x_get hx hb hts hin2 hown hW 15 (8 * i + ordr σ i q) (xg_s G0 D xa σ τ (i := 8 * i + ordr σ i q) (lvS_of (by omega) (ordr_lt (by omega)) (hs8 _))) rfl 4 (by decide) (hts (.fieldLink RX4 220 "Restitutory$Station" "year" "I") (by decide +kernel)) rfl (v := .int (nI (σ 16 (8 * i + ordr σ i q)))) (rfl) dX4_takesAway_35 ?_
        have b_35 := hB 16 (8 * i + ordr σ i q)
        refine xv_i (k := 0) (i := 0) (As := [.ref (xa 10 (σ 13 (8 * i + ordr σ i (q - 1)))), .int (nI (σ 15 (8 * i + ordr σ i q))), .int (nI (σ 16 (8 * i + ordr σ i q)))]) (rest := []) ⟨hx, hb, hml, hown, hts⟩ (c_X4_isDarkFor l D sa xa G0 σ τ hg (σ 13 (8 * i + ordr σ i (q - 1))) (σ 15 (8 * i + ordr σ i q)) (σ 16 (8 * i + ordr σ i q)) (by omega) (by omega) (by omega)) (cwV 3 hts gX4_takesAway_X4_isDarkFor rfl rfl rfl (by decide +kernel) ⟨Nat.le_of_ble_eq_true rfl, Nat.le_of_ble_eq_true rfl⟩) hW (xg_x G0 D xa σ τ) rfl rfl rfl rfl hl.1 (Nat.le_of_ble_eq_true rfl) dX4_takesAway_38 ⟨Nat.le_of_ble_eq_true rfl, Nat.le_of_ble_eq_true rfl⟩ (fun r_38 xa1 G1 H locs hp hW => ?_)
        obtain ⟨hu, hr_38⟩ := hp
        cases hu
        refine lv_if_eq (tgt := 48) hx hb dX4_takesAway_41 (by decide) (fun c_41 => ?_) (fun c_41 => ?_)
        · -- eq taken
          have c_41 := hr_38.f c_41
          refine lv_iconst (v := nI (0)) hx hb dX4_takesAway_48 (by decide +kernel) ?_
          exact xe_i hx hb hr rfl hlocks hW ⟨rfl, tv.zero (fun h => h.2.elim (fun h1 => by omega) (fun h1 => c_41 h1.2.2))⟩ (Nat.le_of_ble_eq_true rfl) (Nat.le_of_ble_eq_true rfl) dX4_takesAway_49
        · -- eq not
          have c_41 := hr_38.t c_41
          refine lv_iconst (v := nI (1)) hx hb dX4_takesAway_44 (by decide +kernel) ?_
          refine lv_goto (tgt := 49) hx hb dX4_takesAway_45 (by decide) ?_
          exact xe_i hx hb hr rfl hlocks hW ⟨rfl, tv.one ⟨hc0, Or.inr ⟨c_15, by omega, c_41⟩⟩⟩ (Nat.le_of_ble_eq_true rfl) (Nat.le_of_ble_eq_true rfl) dX4_takesAway_49

set_option maxHeartbeats 4000000 in
set_option maxRecDepth 100000 in
theorem c_X4_isKeptInGoodFaith (l : Launch) (D : xD) (sa : Nat → Nat) (xa : xA) (G0 : xG) (σ : Sg) (τ : Tg) (hg : Gd σ) (hL : LL σ τ) (i q : Nat) (hi : i < σ 12 0) (hq : q < σ 11 i) : xCi l yX4_isKeptInGoodFaith wsX4_isKeptInGoodFaith ({ frames := 10, cells := 0, slots := 0, locals := 200 } : Room) D sa xa (xGs G0 D xa σ τ) [.ref (xa 0 0), .ref (xa 15 (8 * i + ordr σ i q))] (fun r u => u = (xa, xGs G0 D xa σ τ) ∧ tv r (faiO σ i (ordr σ i) (σ 11 i) q)) 0 0 := by
  have hB := hg.1
  have h5 := hg.2.1.1
  have h7 := hg.2.1.2.1
  have h12 := hg.2.1.2.2.1
  have hy0 := hg.2.1.2.2.2.1
  have hy1 := hg.2.1.2.2.2.2
  have hm := hg.hm
  have hs8 := hg.hs8
  intro sz
  refine Met.ofW (cc := cX4_isKeptInGoodFaith) (maxL := 4) (ret := (some .boolean)) (by decide +kernel) rfl ?_
  intro p e s m args below meth c s₁ B hml hv
  obtain ⟨rfl, hsz, hv2⟩ := hv
  subst hsz
  have hx := B.exec
  have hb := B.bytes
  have hr := B.returns
  have hts := atoms_spec (ws := wsX4_isKeptInGoodFaith) B.pre
  have hown : s.vm.findClass RX4 = some m.cls := findClass_of_methodNamed B.named
  have hlocks := B.notSynchronized
  have hin4 : ∀ w ∈ wsX40, w ∈ wsX4_isKeptInGoodFaith := by decide +kernel
  have hin2 : ∀ w ∈ wsX20, w ∈ wsX4_isKeptInGoodFaith := by decide +kernel
  have hW := xW.start (s := s) ⟨rfl, hv2⟩
  clear hv2
  generalize xAw xa (xGs G0 D xa σ τ) s.heap.size = A at hW ⊢
  have hl := lv_entry ([.ref (xa 0 0), .ref (xa 15 (8 * i + ordr σ i q))]) (n := 4) (Nat.le_of_ble_eq_true rfl)
  rw [lg_entry_eq]
  generalize (lg_sl ([.ref (xa 0 0), .ref (xa 15 (8 * i + ordr σ i q))]) ++ List.replicate (4 - (lg_sl ([.ref (xa 0 0), .ref (xa 15 (8 * i + ordr σ i q))])).length) Slot.unset).toArray = ls at hl ⊢
  have hl : lv_has ls 4 [(0, .ref (xa 0 0)), (1, .ref (xa 15 (8 * i + ordr σ i q)))] := hl
  have hst := fun k hk => (hg.2.2.2.2.1 i hi).2.2 k hk
  have sj := hst _ (ordr_lt hq)
  have h8 := hs8 i
  have hll := (hL i hi).2.2 q hq
  by_cases hc0 : q + 1 < σ 11 i
  ·
    have hτ := hll.2
    rw [if_pos hc0] at hτ
    refine lv_aload_n hx hb dX4_isKeptInGoodFaith_0 rfl (lv_at hl 0 rfl) ?_
    refine x_get hx hb hts hin4 hown hW 0 0 (xg_x G0 D xa σ τ) rfl 4 (by decide) (hts (.fieldLink RX4 21 "Restitutory" "faithYears" "[I") (by decide +kernel)) rfl (v := .ref (xa 3 0)) (rfl) dX4_isKeptInGoodFaith_1 ?_
    refine lv_aload_n hx hb dX4_isKeptInGoodFaith_4 rfl (lv_at hl 1 rfl) ?_
    refine x_get hx hb hts hin2 hown hW 15 (8 * i + ordr σ i q) (xg_s G0 D xa σ τ (i := 8 * i + ordr σ i q) (lvS_of (by omega) (ordr_lt (by omega)) (hs8 _))) rfl 3 (by decide) (hts (.fieldLink RX4 217 "Restitutory$Station" "land" "I") (by decide +kernel)) rfl (v := .int (nI (σ 15 (8 * i + ordr σ i q)))) (rfl) dX4_isKeptInGoodFaith_5 ?_
    have b_5 := hB 15 (8 * i + ordr σ i q)
    refine x_ild hx hb hW 3 0 (xg_fa G0 D xa σ τ) (σ 15 (8 * i + ordr σ i q)) rfl (by omega) (by omega) rfl dX4_isKeptInGoodFaith_8 ?_
    have b_8 := hB 8 (σ 15 (8 * i + ordr σ i q))
    refine lv_istore_n (lv' := [(2, .int (nI (σ 8 (σ 15 (8 * i + ordr σ i q))))), (0, .ref (xa 0 0)), (1, .ref (xa 15 (8 * i + ordr σ i q)))]) hx hb dX4_isKeptInGoodFaith_9 rfl hl (by decide) rfl (fun ls hl => ?_)
    have hl : lv_has ls 4 [(0, .ref (xa 0 0)), (1, .ref (xa 15 (8 * i + ordr σ i q))), (2, .int (nI (σ 8 (σ 15 (8 * i + ordr σ i q)))))] := lv_sub hl [1, 2, 0] rfl
    refine lv_aload_n hx hb dX4_isKeptInGoodFaith_10 rfl (lv_at hl 1 rfl) ?_
    refine x_get hx hb hts hin2 hown hW 15 (8 * i + ordr σ i q) (xg_s G0 D xa σ τ (i := 8 * i + ordr σ i q) (lvS_of (by omega) (ordr_lt (by omega)) (hs8 _))) rfl 8 (by decide) (hts (.fieldLink RX4 166 "Restitutory$Station" "next" "LRestitutory$Station;") (by decide +kernel)) rfl (v := .ref (xa 15 (8 * i + ordr σ i (q + 1)))) (by show some (va_rf ((τ 4 _).map (xa 15))) = _; rw [hτ]; rfl) dX4_isKeptInGoodFaith_11 ?_
    refine lv_ifnonnull (tgt := 24) hx hb dX4_isKeptInGoodFaith_14 (by decide) ?_
    refine lv_aload_n hx hb dX4_isKeptInGoodFaith_24 rfl (lv_at hl 1 rfl) ?_
    refine x_get hx hb hts hin2 hown hW 15 (8 * i + ordr σ i q) (xg_s G0 D xa σ τ (i := 8 * i + ordr σ i q) (lvS_of (by omega) (ordr_lt (by omega)) (hs8 _))) rfl 8 (by decide) (hts (.fieldLink RX4 166 "Restitutory$Station" "next" "LRestitutory$Station;") (by decide +kernel)) rfl (v := .ref (xa 15 (8 * i + ordr σ i (q + 1)))) (by show some (va_rf ((τ 4 _).map (xa 15))) = _; rw [hτ]; rfl) dX4_isKeptInGoodFaith_25 ?_
    refine x_get hx hb hts hin2 hown hW 15 (8 * i + ordr σ i (q + 1)) (xg_s G0 D xa σ τ (i := 8 * i + ordr σ i (q + 1)) (lvS_of (by omega) (ordr_lt (by omega)) (hs8 _))) rfl 4 (by decide) (hts (.fieldLink RX4 220 "Restitutory$Station" "year" "I") (by decide +kernel)) rfl (v := .int (nI (σ 16 (8 * i + ordr σ i (q + 1))))) (rfl) dX4_isKeptInGoodFaith_28 ?_
    have b_28 := hB 16 (8 * i + ordr σ i (q + 1))
    refine lv_istore_n (lv' := [(3, .int (nI (σ 16 (8 * i + ordr σ i (q + 1))))), (0, .ref (xa 0 0)), (1, .ref (xa 15 (8 * i + ordr σ i q))), (2, .int (nI (σ 8 (σ 15 (8 * i + ordr σ i q)))))]) hx hb dX4_isKeptInGoodFaith_31 rfl hl (by decide) rfl (fun ls hl => ?_)
    have hl : lv_has ls 4 [(0, .ref (xa 0 0)), (1, .ref (xa 15 (8 * i + ordr σ i q))), (2, .int (nI (σ 8 (σ 15 (8 * i + ordr σ i q))))), (3, .int (nI (σ 16 (8 * i + ordr σ i (q + 1)))))] := lv_sub hl [1, 2, 3, 0] rfl
    refine lv_aload_n hx hb dX4_isKeptInGoodFaith_32 rfl (lv_at hl 1 rfl) ?_
    refine x_get hx hb hts hin2 hown hW 15 (8 * i + ordr σ i q) (xg_s G0 D xa σ τ (i := 8 * i + ordr σ i q) (lvS_of (by omega) (ordr_lt (by omega)) (hs8 _))) rfl 2 (by decide) (hts (.fieldLink RX4 130 "Restitutory$Station" "kind" "I") (by decide +kernel)) rfl (v := .int (nI (σ 14 (8 * i + ordr σ i q)))) (rfl) dX4_isKeptInGoodFaith_33 ?_
    have b_33 := hB 14 (8 * i + ordr σ i q)
    refine lv_if_ne (tgt := 57) hx hb dX4_isKeptInGoodFaith_36 (by decide) (fun c_36 => ?_) (fun c_36 => ?_)
    · -- ne taken
      have c_36 : ¬ (σ 14 (8 * i + ordr σ i q) = 0) := fun h_ => c_36 ((x_eqZ (a := σ 14 (8 * i + ordr σ i q)) (by omega)).mpr h_)
      refine lv_iconst (v := nI (0)) hx hb dX4_isKeptInGoodFaith_57 (by decide +kernel) ?_
      exact xe_i hx hb hr rfl hlocks hW ⟨rfl, tv.zero (fun h => c_36 h.1)⟩ (Nat.le_of_ble_eq_true rfl) (Nat.le_of_ble_eq_true rfl) dX4_isKeptInGoodFaith_58
    · -- ne not
      have c_36 := (x_eqZ (a := σ 14 (8 * i + ordr σ i q)) (by omega)).mp c_36
      refine lv_iload_n hx hb dX4_isKeptInGoodFaith_39 rfl (lv_at hl 2 rfl) ?_
      refine lv_if_le (tgt := 57) hx hb dX4_isKeptInGoodFaith_40 (by decide) (fun c_40 => ?_) (fun c_40 => ?_)
      · -- le taken
        have c_40 := Int32.le_iff_toInt_le.mp c_40
        rw [nI_toInt (n := σ 8 (σ 15 (8 * i + ordr σ i q))) (by omega)] at c_40
        rw [x_t0] at c_40
        refine lv_iconst (v := nI (0)) hx hb dX4_isKeptInGoodFaith_57 (by decide +kernel) ?_
        exact xe_i hx hb hr rfl hlocks hW ⟨rfl, tv.zero (fun h => by have := h.2.1; omega)⟩ (Nat.le_of_ble_eq_true rfl) (Nat.le_of_ble_eq_true rfl) dX4_isKeptInGoodFaith_58
      · -- le not
        have c_40 : ¬ ((nI (σ 8 (σ 15 (8 * i + ordr σ i q)))).toInt ≤ ((0 : Int32)).toInt) := fun h => c_40 (Int32.le_iff_toInt_le.mpr h)
        rw [nI_toInt (n := σ 8 (σ 15 (8 * i + ordr σ i q))) (by omega)] at c_40
        rw [x_t0] at c_40
        refine lv_iload_n hx hb dX4_isKeptInGoodFaith_43 rfl (lv_at hl 3 rfl) ?_
        refine lv_aload_n hx hb dX4_isKeptInGoodFaith_44 rfl (lv_at hl 1 rfl) ?_
        refine x_get hx hb hts hin2 hown hW 15 (8 * i + ordr σ i q) (xg_s G0 D xa σ τ (i := 8 * i + ordr σ i q) (lvS_of (by omega) (ordr_lt (by omega)) (hs8 _))) rfl 4 (by decide) (hts (.fieldLink RX4 220 "Restitutory$Station" "year" "I") (by decide +kernel)) rfl (v := .int (nI (σ 16 (8 * i + ordr σ i q)))) (rfl) dX4_isKeptInGoodFaith_45 ?_
        have b_45 := hB 16 (8 * i + ordr σ i q)
        refine lv_isub hx hb dX4_isKeptInGoodFaith_48 ?_
        have hsub : (nI (σ 16 (8 * i + ordr σ i (q + 1))) - nI (σ 16 (8 * i + ordr σ i q))).toInt = ((σ 16 (8 * i + ordr σ i (q + 1)) : Nat) : Int) - (σ 16 (8 * i + ordr σ i q) : Nat) := pk_sub_toInt (by omega) (by omega)
        refine lv_iload_n hx hb dX4_isKeptInGoodFaith_49 rfl (lv_at hl 2 rfl) ?_
        refine lv_icmp_lt (tgt := 57) hx hb dX4_isKeptInGoodFaith_50 (by decide) (fun c_50 => ?_) (fun c_50 => ?_)
        · -- lt taken
          have c_50 := Int32.lt_iff_toInt_lt.mp c_50
          rw [nI_toInt (n := σ 8 (σ 15 (8 * i + ordr σ i q))) (by omega)] at c_50
          refine lv_iconst (v := nI (0)) hx hb dX4_isKeptInGoodFaith_57 (by decide +kernel) ?_
          exact xe_i hx hb hr rfl hlocks hW ⟨rfl, tv.zero (fun h => by have h3 := h.2.2; unfold untO at h3; rw [if_pos hc0] at h3; rw [hsub] at c_50; omega)⟩ (Nat.le_of_ble_eq_true rfl) (Nat.le_of_ble_eq_true rfl) dX4_isKeptInGoodFaith_58
        · -- lt not
          have c_50 : ¬ ((nI (σ 16 (8 * i + ordr σ i (q + 1))) - nI (σ 16 (8 * i + ordr σ i q))).toInt < (nI (σ 8 (σ 15 (8 * i + ordr σ i q)))).toInt) := fun h => c_50 (Int32.lt_iff_toInt_lt.mpr h)
          rw [nI_toInt (n := σ 8 (σ 15 (8 * i + ordr σ i q))) (by omega)] at c_50
          refine lv_iconst (v := nI (1)) hx hb dX4_isKeptInGoodFaith_53 (by decide +kernel) ?_
          refine lv_goto (tgt := 58) hx hb dX4_isKeptInGoodFaith_54 (by decide) ?_
          exact xe_i hx hb hr rfl hlocks hW ⟨rfl, tv.one ⟨c_36, by omega, by unfold untO; rw [if_pos hc0]; rw [hsub] at c_50; omega⟩⟩ (Nat.le_of_ble_eq_true rfl) (Nat.le_of_ble_eq_true rfl) dX4_isKeptInGoodFaith_58
  ·
    have hτ := hll.2
    rw [if_neg hc0] at hτ
    refine lv_aload_n hx hb dX4_isKeptInGoodFaith_0 rfl (lv_at hl 0 rfl) ?_
    refine x_get hx hb hts hin4 hown hW 0 0 (xg_x G0 D xa σ τ) rfl 4 (by decide) (hts (.fieldLink RX4 21 "Restitutory" "faithYears" "[I") (by decide +kernel)) rfl (v := .ref (xa 3 0)) (rfl) dX4_isKeptInGoodFaith_1 ?_
    refine lv_aload_n hx hb dX4_isKeptInGoodFaith_4 rfl (lv_at hl 1 rfl) ?_
    refine x_get hx hb hts hin2 hown hW 15 (8 * i + ordr σ i q) (xg_s G0 D xa σ τ (i := 8 * i + ordr σ i q) (lvS_of (by omega) (ordr_lt (by omega)) (hs8 _))) rfl 3 (by decide) (hts (.fieldLink RX4 217 "Restitutory$Station" "land" "I") (by decide +kernel)) rfl (v := .int (nI (σ 15 (8 * i + ordr σ i q)))) (rfl) dX4_isKeptInGoodFaith_5 ?_
    have b_5 := hB 15 (8 * i + ordr σ i q)
    refine x_ild hx hb hW 3 0 (xg_fa G0 D xa σ τ) (σ 15 (8 * i + ordr σ i q)) rfl (by omega) (by omega) rfl dX4_isKeptInGoodFaith_8 ?_
    have b_8 := hB 8 (σ 15 (8 * i + ordr σ i q))
    refine lv_istore_n (lv' := [(2, .int (nI (σ 8 (σ 15 (8 * i + ordr σ i q))))), (0, .ref (xa 0 0)), (1, .ref (xa 15 (8 * i + ordr σ i q)))]) hx hb dX4_isKeptInGoodFaith_9 rfl hl (by decide) rfl (fun ls hl => ?_)
    have hl : lv_has ls 4 [(0, .ref (xa 0 0)), (1, .ref (xa 15 (8 * i + ordr σ i q))), (2, .int (nI (σ 8 (σ 15 (8 * i + ordr σ i q)))))] := lv_sub hl [1, 2, 0] rfl
    refine lv_aload_n hx hb dX4_isKeptInGoodFaith_10 rfl (lv_at hl 1 rfl) ?_
    refine x_get hx hb hts hin2 hown hW 15 (8 * i + ordr σ i q) (xg_s G0 D xa σ τ (i := 8 * i + ordr σ i q) (lvS_of (by omega) (ordr_lt (by omega)) (hs8 _))) rfl 8 (by decide) (hts (.fieldLink RX4 166 "Restitutory$Station" "next" "LRestitutory$Station;") (by decide +kernel)) rfl (v := .null) (by show some (va_rf ((τ 4 _).map (xa 15))) = _; rw [hτ]; rfl) dX4_isKeptInGoodFaith_11 ?_
    refine lv_ifnonnullN hx hb dX4_isKeptInGoodFaith_14 ?_
    refine lv_aload_n hx hb dX4_isKeptInGoodFaith_17 rfl (lv_at hl 0 rfl) ?_
    refine x_get hx hb hts hin4 hown hW 0 0 (xg_x G0 D xa σ τ) rfl 5 (by decide) (hts (.fieldLink RX4 25 "Restitutory" "currentYear" "I") (by decide +kernel)) rfl (v := .int (nI (σ 0 0))) (rfl) dX4_isKeptInGoodFaith_18 ?_
    have b_18 := hB 0 0
    refine lv_goto (tgt := 31) hx hb dX4_isKeptInGoodFaith_21 (by decide) ?_
    refine lv_istore_n (lv' := [(3, .int (nI (σ 0 0))), (0, .ref (xa 0 0)), (1, .ref (xa 15 (8 * i + ordr σ i q))), (2, .int (nI (σ 8 (σ 15 (8 * i + ordr σ i q)))))]) hx hb dX4_isKeptInGoodFaith_31 rfl hl (by decide) rfl (fun ls hl => ?_)
    have hl : lv_has ls 4 [(0, .ref (xa 0 0)), (1, .ref (xa 15 (8 * i + ordr σ i q))), (2, .int (nI (σ 8 (σ 15 (8 * i + ordr σ i q))))), (3, .int (nI (σ 0 0)))] := lv_sub hl [1, 2, 3, 0] rfl
    refine lv_aload_n hx hb dX4_isKeptInGoodFaith_32 rfl (lv_at hl 1 rfl) ?_
    refine x_get hx hb hts hin2 hown hW 15 (8 * i + ordr σ i q) (xg_s G0 D xa σ τ (i := 8 * i + ordr σ i q) (lvS_of (by omega) (ordr_lt (by omega)) (hs8 _))) rfl 2 (by decide) (hts (.fieldLink RX4 130 "Restitutory$Station" "kind" "I") (by decide +kernel)) rfl (v := .int (nI (σ 14 (8 * i + ordr σ i q)))) (rfl) dX4_isKeptInGoodFaith_33 ?_
    have b_33 := hB 14 (8 * i + ordr σ i q)
    refine lv_if_ne (tgt := 57) hx hb dX4_isKeptInGoodFaith_36 (by decide) (fun c_36 => ?_) (fun c_36 => ?_)
    · -- ne taken
      have c_36 : ¬ (σ 14 (8 * i + ordr σ i q) = 0) := fun h_ => c_36 ((x_eqZ (a := σ 14 (8 * i + ordr σ i q)) (by omega)).mpr h_)
      refine lv_iconst (v := nI (0)) hx hb dX4_isKeptInGoodFaith_57 (by decide +kernel) ?_
      exact xe_i hx hb hr rfl hlocks hW ⟨rfl, tv.zero (fun h => c_36 h.1)⟩ (Nat.le_of_ble_eq_true rfl) (Nat.le_of_ble_eq_true rfl) dX4_isKeptInGoodFaith_58
    · -- ne not
      have c_36 := (x_eqZ (a := σ 14 (8 * i + ordr σ i q)) (by omega)).mp c_36
      refine lv_iload_n hx hb dX4_isKeptInGoodFaith_39 rfl (lv_at hl 2 rfl) ?_
      refine lv_if_le (tgt := 57) hx hb dX4_isKeptInGoodFaith_40 (by decide) (fun c_40 => ?_) (fun c_40 => ?_)
      · -- le taken
        have c_40 := Int32.le_iff_toInt_le.mp c_40
        rw [nI_toInt (n := σ 8 (σ 15 (8 * i + ordr σ i q))) (by omega)] at c_40
        rw [x_t0] at c_40
        refine lv_iconst (v := nI (0)) hx hb dX4_isKeptInGoodFaith_57 (by decide +kernel) ?_
        exact xe_i hx hb hr rfl hlocks hW ⟨rfl, tv.zero (fun h => by have := h.2.1; omega)⟩ (Nat.le_of_ble_eq_true rfl) (Nat.le_of_ble_eq_true rfl) dX4_isKeptInGoodFaith_58
      · -- le not
        have c_40 : ¬ ((nI (σ 8 (σ 15 (8 * i + ordr σ i q)))).toInt ≤ ((0 : Int32)).toInt) := fun h => c_40 (Int32.le_iff_toInt_le.mpr h)
        rw [nI_toInt (n := σ 8 (σ 15 (8 * i + ordr σ i q))) (by omega)] at c_40
        rw [x_t0] at c_40
        refine lv_iload_n hx hb dX4_isKeptInGoodFaith_43 rfl (lv_at hl 3 rfl) ?_
        refine lv_aload_n hx hb dX4_isKeptInGoodFaith_44 rfl (lv_at hl 1 rfl) ?_
        refine x_get hx hb hts hin2 hown hW 15 (8 * i + ordr σ i q) (xg_s G0 D xa σ τ (i := 8 * i + ordr σ i q) (lvS_of (by omega) (ordr_lt (by omega)) (hs8 _))) rfl 4 (by decide) (hts (.fieldLink RX4 220 "Restitutory$Station" "year" "I") (by decide +kernel)) rfl (v := .int (nI (σ 16 (8 * i + ordr σ i q)))) (rfl) dX4_isKeptInGoodFaith_45 ?_
        have b_45 := hB 16 (8 * i + ordr σ i q)
        refine lv_isub hx hb dX4_isKeptInGoodFaith_48 ?_
        have hsub : (nI (σ 0 0) - nI (σ 16 (8 * i + ordr σ i q))).toInt = ((σ 0 0 : Nat) : Int) - (σ 16 (8 * i + ordr σ i q) : Nat) := pk_sub_toInt (by omega) (by omega)
        refine lv_iload_n hx hb dX4_isKeptInGoodFaith_49 rfl (lv_at hl 2 rfl) ?_
        refine lv_icmp_lt (tgt := 57) hx hb dX4_isKeptInGoodFaith_50 (by decide) (fun c_50 => ?_) (fun c_50 => ?_)
        · -- lt taken
          have c_50 := Int32.lt_iff_toInt_lt.mp c_50
          rw [nI_toInt (n := σ 8 (σ 15 (8 * i + ordr σ i q))) (by omega)] at c_50
          refine lv_iconst (v := nI (0)) hx hb dX4_isKeptInGoodFaith_57 (by decide +kernel) ?_
          exact xe_i hx hb hr rfl hlocks hW ⟨rfl, tv.zero (fun h => by have h3 := h.2.2; unfold untO at h3; rw [if_neg hc0] at h3; rw [hsub] at c_50; omega)⟩ (Nat.le_of_ble_eq_true rfl) (Nat.le_of_ble_eq_true rfl) dX4_isKeptInGoodFaith_58
        · -- lt not
          have c_50 : ¬ ((nI (σ 0 0) - nI (σ 16 (8 * i + ordr σ i q))).toInt < (nI (σ 8 (σ 15 (8 * i + ordr σ i q)))).toInt) := fun h => c_50 (Int32.lt_iff_toInt_lt.mpr h)
          rw [nI_toInt (n := σ 8 (σ 15 (8 * i + ordr σ i q))) (by omega)] at c_50
          refine lv_iconst (v := nI (1)) hx hb dX4_isKeptInGoodFaith_53 (by decide +kernel) ?_
          refine lv_goto (tgt := 58) hx hb dX4_isKeptInGoodFaith_54 (by decide) ?_
          exact xe_i hx hb hr rfl hlocks hW ⟨rfl, tv.one ⟨c_36, by omega, by unfold untO; rw [if_neg hc0]; rw [hsub] at c_50; omega⟩⟩ (Nat.le_of_ble_eq_true rfl) (Nat.le_of_ble_eq_true rfl) dX4_isKeptInGoodFaith_58

set_option maxHeartbeats 4000000 in
set_option maxRecDepth 100000 in
theorem c_X4_bringsTitle (l : Launch) (D : xD) (sa : Nat → Nat) (xa : xA) (G0 : xG) (σ : Sg) (τ : Tg) (hg : Gd σ) (hL : LL σ τ) (i q : Nat) (hi : i < σ 12 0) (hq : q < σ 11 i) (hq1 : 1 ≤ q) (t : Nat) (ht : t < σ 5 0) : xCi l yX4_bringsTitle wsX4_bringsTitle ({ frames := 16, cells := 0, slots := 0, locals := 500 } : Room) D sa xa (xGs G0 D xa σ τ) [.ref (xa 0 0), .ref (xa 15 (8 * i + ordr σ i q)), .ref (xa 10 t)] (fun r u => u = (xa, xGs G0 D xa σ τ) ∧ tv r (brO σ i (ordr σ i) (σ 11 i) q t)) 0 0 := by
  have hB := hg.1
  have h5 := hg.2.1.1
  have h7 := hg.2.1.2.1
  have h12 := hg.2.1.2.2.1
  have hy0 := hg.2.1.2.2.2.1
  have hy1 := hg.2.1.2.2.2.2
  have hm := hg.hm
  have hs8 := hg.hs8
  intro sz
  refine Met.ofW (cc := cX4_bringsTitle) (maxL := 4) (ret := (some .boolean)) (by decide +kernel) rfl ?_
  intro p e s m args below meth c s₁ B hml hv
  obtain ⟨rfl, hsz, hv2⟩ := hv
  subst hsz
  have hx := B.exec
  have hb := B.bytes
  have hr := B.returns
  have hts := atoms_spec (ws := wsX4_bringsTitle) B.pre
  have hown : s.vm.findClass RX4 = some m.cls := findClass_of_methodNamed B.named
  have hlocks := B.notSynchronized
  have hin2 : ∀ w ∈ wsX20, w ∈ wsX4_bringsTitle := by decide +kernel
  have hin4 : ∀ w ∈ wsX40, w ∈ wsX4_bringsTitle := by decide +kernel
  have hin1 : ∀ w ∈ wsX10, w ∈ wsX4_bringsTitle := by decide +kernel
  have hin0 : ∀ w ∈ wsX00, w ∈ wsX4_bringsTitle := by decide +kernel
  have hW := xW.start (s := s) ⟨rfl, hv2⟩
  clear hv2
  generalize xAw xa (xGs G0 D xa σ τ) s.heap.size = A at hW ⊢
  have hl := lv_entry ([.ref (xa 0 0), .ref (xa 15 (8 * i + ordr σ i q)), .ref (xa 10 t)]) (n := 4) (Nat.le_of_ble_eq_true rfl)
  rw [lg_entry_eq]
  generalize (lg_sl ([.ref (xa 0 0), .ref (xa 15 (8 * i + ordr σ i q)), .ref (xa 10 t)]) ++ List.replicate (4 - (lg_sl ([.ref (xa 0 0), .ref (xa 15 (8 * i + ordr σ i q)), .ref (xa 10 t)])).length) Slot.unset).toArray = ls at hl ⊢
  have hl : lv_has ls 4 [(0, .ref (xa 0 0)), (1, .ref (xa 15 (8 * i + ordr σ i q))), (2, .ref (xa 10 t))] := hl
  have hst := fun k hk => (hg.2.2.2.2.1 i hi).2.2 k hk
  have sj := hst _ (ordr_lt hq)
  have h8 := hs8 i
  have hll := (hL i hi).2.2 q hq
  have hc0 : ¬ q = 0 := by omega
  have hτ := hll.1
  rw [if_neg hc0] at hτ
  have sja := hst _ (ordr_lt (σ := σ) (i := i) (q := q - 1) (by omega))
  refine lv_aload_n hx hb dX4_bringsTitle_0 rfl (lv_at hl 1 rfl) ?_
  refine x_get hx hb hts hin2 hown hW 15 (8 * i + ordr σ i q) (xg_s G0 D xa σ τ (i := 8 * i + ordr σ i q) (lvS_of (by omega) (ordr_lt (by omega)) (hs8 _))) rfl 6 (by decide) (hts (.fieldLink RX4 138 "Restitutory$Station" "settled" "Z") (by decide +kernel)) rfl (v := .int (nI (σ 18 (8 * i + ordr σ i q)))) (rfl) dX4_bringsTitle_1 ?_
  have b_1 := hB 18 (8 * i + ordr σ i q)
  refine lv_if_eq (tgt := 9) hx hb dX4_bringsTitle_4 (by decide) (fun c_4 => ?_) (fun c_4 => ?_)
  · -- eq taken
    have c_4 := (x_eqZ (a := σ 18 (8 * i + ordr σ i q)) (by omega)).mp c_4
    refine lv_aload_n hx hb dX4_bringsTitle_9 rfl (lv_at hl 0 rfl) ?_
    refine lv_aload_n hx hb dX4_bringsTitle_10 rfl (lv_at hl 1 rfl) ?_
    refine xv_i (k := 0) (i := 0) (As := [.ref (xa 15 (8 * i + ordr σ i q))]) (rest := []) ⟨hx, hb, hml, hown, hts⟩ (c_X4_takesAway l D sa xa G0 σ τ hg hL i q hi hq) (cwV 1 hts gX4_bringsTitle_X4_takesAway rfl rfl rfl (by decide +kernel) ⟨Nat.le_of_ble_eq_true rfl, Nat.le_of_ble_eq_true rfl⟩) hW (xg_x G0 D xa σ τ) rfl rfl rfl rfl hl.1 (Nat.le_of_ble_eq_true rfl) dX4_bringsTitle_11 ⟨Nat.le_of_ble_eq_true rfl, Nat.le_of_ble_eq_true rfl⟩ (fun r_11 xa1 G1 H locs hp hW => ?_)
    obtain ⟨hu, hr_11⟩ := hp
    cases hu
    refine lv_if_eq (tgt := 19) hx hb dX4_bringsTitle_14 (by decide) (fun c_14 => ?_) (fun c_14 => ?_)
    · -- eq taken
      have c_14 := hr_11.f c_14
      refine lv_aload_n hx hb dX4_bringsTitle_19 rfl (lv_at hl 1 rfl) ?_
      refine x_get hx hb hts hin2 hown hW 15 (8 * i + ordr σ i q) (xg_s G0 D xa σ τ (i := 8 * i + ordr σ i q) (lvS_of (by omega) (ordr_lt (by omega)) (hs8 _))) rfl 7 (by decide) (hts (.fieldLink RX4 210 "Restitutory$Station" "ahead" "LRestitutory$Station;") (by decide +kernel)) rfl (v := .ref (xa 15 (8 * i + ordr σ i (q - 1)))) (by show some (va_rf ((τ 3 _).map (xa 15))) = _; rw [hτ]; rfl) dX4_bringsTitle_20 ?_
      refine lv_ifnull hx hb dX4_bringsTitle_23 ?_
      refine lv_aload_n hx hb dX4_bringsTitle_26 rfl (lv_at hl 1 rfl) ?_
      refine x_get hx hb hts hin2 hown hW 15 (8 * i + ordr σ i q) (xg_s G0 D xa σ τ (i := 8 * i + ordr σ i q) (lvS_of (by omega) (ordr_lt (by omega)) (hs8 _))) rfl 7 (by decide) (hts (.fieldLink RX4 210 "Restitutory$Station" "ahead" "LRestitutory$Station;") (by decide +kernel)) rfl (v := .ref (xa 15 (8 * i + ordr σ i (q - 1)))) (by show some (va_rf ((τ 3 _).map (xa 15))) = _; rw [hτ]; rfl) dX4_bringsTitle_27 ?_
      refine x_get hx hb hts hin2 hown hW 15 (8 * i + ordr σ i (q - 1)) (xg_s G0 D xa σ τ (i := 8 * i + ordr σ i (q - 1)) (lvS_of (by omega) (ordr_lt (by omega)) (hs8 _))) rfl 1 (by decide) (hts (.fieldLink RX4 213 "Restitutory$Station" "party" "LRestitutory$Person;") (by decide +kernel)) rfl (v := .ref (xa 10 (σ 13 (8 * i + ordr σ i (q - 1))))) (rfl) dX4_bringsTitle_30 ?_
      refine lv_aload_n hx hb dX4_bringsTitle_33 rfl (lv_at hl 2 rfl) ?_
      refine lv_acmp_ne (rx := some (xa 10 (σ 13 (8 * i + ordr σ i (q - 1))))) (ry := some (xa 10 t)) (tgt := 41) hx hb dX4_bringsTitle_34 (by decide) (fun c_34 => ?_) (fun c_34 => ?_)
      · -- acmpne taken
        have e_34 : ¬ t = σ 13 (8 * i + ordr σ i (q - 1)) := fun h => c_34 (by rw [h])
        refine lv_iconst (v := nI (0)) hx hb dX4_bringsTitle_41 (by decide +kernel) ?_
        refine lv_istore_n (lv' := [(3, .int (nI (0))), (0, .ref (xa 0 0)), (1, .ref (xa 15 (8 * i + ordr σ i q))), (2, .ref (xa 10 t))]) hx hb dX4_bringsTitle_42 rfl hl (by decide) rfl (fun ls hl => ?_)
        have hl : lv_has ls 4 [(0, .ref (xa 0 0)), (1, .ref (xa 15 (8 * i + ordr σ i q))), (2, .ref (xa 10 t)), (3, .int (nI (0)))] := lv_sub hl [1, 2, 3, 0] rfl
        refine lv_iload_n hx hb dX4_bringsTitle_43 rfl (lv_at hl 3 rfl) ?_
        refine lv_if_ne (tgt := 55) hx hb dX4_bringsTitle_44 (by decide) (fun c_44 => ?_) (fun c_44 => ?_)
        · -- ne taken
          have c_44 : ¬ (0 = 0) := fun h_ => c_44 ((x_eqZ (a := 0) (by omega)).mpr h_)
          exact absurd rfl c_44
        · -- ne not
          have c_44 := (x_eqZ (a := 0) (by omega)).mp c_44
          refine lv_aload_n hx hb dX4_bringsTitle_47 rfl (lv_at hl 0 rfl) ?_
          refine lv_aload_n hx hb dX4_bringsTitle_48 rfl (lv_at hl 1 rfl) ?_
          refine xv_i (k := 0) (i := 0) (As := [.ref (xa 15 (8 * i + ordr σ i q))]) (rest := []) ⟨hx, hb, hml, hown, hts⟩ (c_X4_isKeptInGoodFaith l D sa xa G0 σ τ hg hL i q hi hq) (cwV 1 hts gX4_bringsTitle_X4_isKeptInGoodFaith rfl rfl rfl (by decide +kernel) ⟨Nat.le_of_ble_eq_true rfl, Nat.le_of_ble_eq_true rfl⟩) hW (xg_x G0 D xa σ τ) rfl rfl rfl rfl hl.1 (Nat.le_of_ble_eq_true rfl) dX4_bringsTitle_49 ⟨Nat.le_of_ble_eq_true rfl, Nat.le_of_ble_eq_true rfl⟩ (fun r_49 xa1 G1 H locs hp hW => ?_)
          obtain ⟨hu, hr_49⟩ := hp
          cases hu
          refine lv_if_eq (tgt := 59) hx hb dX4_bringsTitle_52 (by decide) (fun c_52 => ?_) (fun c_52 => ?_)
          · -- eq taken
            have c_52 := hr_49.f c_52
            refine lv_iconst (v := nI (0)) hx hb dX4_bringsTitle_59 (by decide +kernel) ?_
            exact xe_i hx hb hr rfl hlocks hW ⟨rfl, tv.zero (fun h => h.elim (fun h1 => by omega) (fun h1 => h1.2.elim e_34 c_52))⟩ (Nat.le_of_ble_eq_true rfl) (Nat.le_of_ble_eq_true rfl) dX4_bringsTitle_60
          · -- eq not
            have c_52 := hr_49.t c_52
            refine lv_iconst (v := nI (1)) hx hb dX4_bringsTitle_55 (by decide +kernel) ?_
            refine lv_goto (tgt := 60) hx hb dX4_bringsTitle_56 (by decide) ?_
            exact xe_i hx hb hr rfl hlocks hW ⟨rfl, tv.one (Or.inr ⟨c_14, Or.inr c_52⟩)⟩ (Nat.le_of_ble_eq_true rfl) (Nat.le_of_ble_eq_true rfl) dX4_bringsTitle_60
      · -- acmpne not
        have e_34 : σ 13 (8 * i + ordr σ i (q - 1)) = t := (hW.inj (xg_p G0 D xa σ τ sja.1) (xg_p G0 D xa σ τ ht) (Option.some.inj c_34)).2
        refine lv_iconst (v := nI (1)) hx hb dX4_bringsTitle_37 (by decide +kernel) ?_
        refine lv_goto (tgt := 42) hx hb dX4_bringsTitle_38 (by decide) ?_
        refine lv_istore_n (lv' := [(3, .int (nI (1))), (0, .ref (xa 0 0)), (1, .ref (xa 15 (8 * i + ordr σ i q))), (2, .ref (xa 10 t))]) hx hb dX4_bringsTitle_42 rfl hl (by decide) rfl (fun ls hl => ?_)
        have hl : lv_has ls 4 [(0, .ref (xa 0 0)), (1, .ref (xa 15 (8 * i + ordr σ i q))), (2, .ref (xa 10 t)), (3, .int (nI (1)))] := lv_sub hl [1, 2, 3, 0] rfl
        refine lv_iload_n hx hb dX4_bringsTitle_43 rfl (lv_at hl 3 rfl) ?_
        refine lv_if_ne (tgt := 55) hx hb dX4_bringsTitle_44 (by decide) (fun c_44 => ?_) (fun c_44 => ?_)
        · -- ne taken
          have c_44 : ¬ (1 = 0) := fun h_ => c_44 ((x_eqZ (a := 1) (by omega)).mpr h_)
          refine lv_iconst (v := nI (1)) hx hb dX4_bringsTitle_55 (by decide +kernel) ?_
          refine lv_goto (tgt := 60) hx hb dX4_bringsTitle_56 (by decide) ?_
          exact xe_i hx hb hr rfl hlocks hW ⟨rfl, tv.one (Or.inr ⟨c_14, Or.inl e_34.symm⟩)⟩ (Nat.le_of_ble_eq_true rfl) (Nat.le_of_ble_eq_true rfl) dX4_bringsTitle_60
        · -- ne not
          have c_44 := (x_eqZ (a := 1) (by omega)).mp c_44
          exact absurd c_44 (by decide)
    · -- eq not
      have c_14 := hr_11.t c_14
      refine lv_iconst (v := nI (0)) hx hb dX4_bringsTitle_17 (by decide +kernel) ?_
      exact xe_i hx hb hr rfl hlocks hW ⟨rfl, tv.zero (fun h => h.elim (fun h1 => by omega) (fun h1 => h1.1 c_14))⟩ (Nat.le_of_ble_eq_true rfl) (Nat.le_of_ble_eq_true rfl) dX4_bringsTitle_18
  · -- eq not
    have c_4 : ¬ (σ 18 (8 * i + ordr σ i q) = 0) := fun h_ => c_4 ((x_eqZ (a := σ 18 (8 * i + ordr σ i q)) (by omega)).mpr h_)
    refine lv_iconst (v := nI (1)) hx hb dX4_bringsTitle_7 (by decide +kernel) ?_
    exact xe_i hx hb hr rfl hlocks hW ⟨rfl, tv.one (Or.inl (by omega))⟩ (Nat.le_of_ble_eq_true rfl) (Nat.le_of_ble_eq_true rfl) dX4_bringsTitle_8
