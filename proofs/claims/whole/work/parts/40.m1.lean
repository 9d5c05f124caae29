set_option maxHeartbeats 4000000 in
set_option maxRecDepth 100000 in
theorem c_X5_in (l : Launch) (D : xD) (sa : Nat → Nat) (xa : xA) (G : xG) (v a b : Int32) : xCi l yX5_in wsX5_in ({ frames := 10, cells := 0, slots := 0, locals := 200 } : Room) D sa xa G [.int v, .int a, .int b] (fun r u => u = (xa, G) ∧ tv r (a.toInt ≤ v.toInt ∧ v.toInt ≤ b.toInt)) 0 0 := by
  intro sz
  refine Met.ofW (cc := cX5_in) (maxL := 3) (ret := (some .boolean)) (by decide +kernel) rfl ?_
  intro p e s m args below meth c s₁ B hml hv
  obtain ⟨rfl, hsz, hv2⟩ := hv
  subst hsz
  have hx := B.exec
  have hb := B.bytes
  have hr := B.returns
  have hts := atoms_spec (ws := wsX5_in) B.pre
  have hown : s.vm.findClass RX5 = some m.cls := findClass_of_methodNamed B.named
  have hlocks := B.notSynchronized
  have hW := xW.start (s := s) ⟨rfl, hv2⟩
  clear hv2
  generalize xAw xa (G) s.heap.size = A at hW ⊢
  have hl := lv_entry ([.int (v), .int (a), .int (b)]) (n := 3) (Nat.le_of_ble_eq_true rfl)
  rw [lg_entry_eq]
  generalize (lg_sl ([.int (v), .int (a), .int (b)]) ++ List.replicate (3 - (lg_sl ([.int (v), .int (a), .int (b)])).length) Slot.unset).toArray = ls at hl ⊢
  have hl : lv_has ls 3 [(0, .int (v)), (1, .int (a)), (2, .int (b))] := hl
  refine lv_iload_n hx hb dX5_in_0 rfl (lv_at hl 0 rfl) ?_
  refine lv_iload_n hx hb dX5_in_1 rfl (lv_at hl 1 rfl) ?_
  refine lv_icmp_lt (tgt := 14) hx hb dX5_in_2 (by decide) (fun c_2 => ?_) (fun c_2 => ?_)
  · -- lt taken
    have c_2 := Int32.lt_iff_toInt_lt.mp c_2
    refine lv_iconst (v := nI (0)) hx hb dX5_in_14 (by decide +kernel) ?_
    exact xe_i hx hb hr rfl hlocks hW ⟨rfl, tv.zero (by first | omega | grind)⟩ (Nat.le_refl _) (Nat.le_refl _) dX5_in_15
  · -- lt not
    have c_2 : ¬ ((v).toInt < (a).toInt) := fun h => c_2 (Int32.lt_iff_toInt_lt.mpr h)
    refine lv_iload_n hx hb dX5_in_5 rfl (lv_at hl 0 rfl) ?_
    refine lv_iload_n hx hb dX5_in_6 rfl (lv_at hl 2 rfl) ?_
    refine lv_icmp_gt (tgt := 14) hx hb dX5_in_7 (by decide) (fun c_7 => ?_) (fun c_7 => ?_)
    · -- gt taken
      have c_7 := Int32.lt_iff_toInt_lt.mp c_7
      refine lv_iconst (v := nI (0)) hx hb dX5_in_14 (by decide +kernel) ?_
      exact xe_i hx hb hr rfl hlocks hW ⟨rfl, tv.zero (by first | omega | grind)⟩ (Nat.le_refl _) (Nat.le_refl _) dX5_in_15
    · -- gt not
      have c_7 : ¬ ((b).toInt < (v).toInt) := fun h => c_7 (Int32.lt_iff_toInt_lt.mpr h)
      refine lv_iconst (v := nI (1)) hx hb dX5_in_10 (by decide +kernel) ?_
      refine lv_goto (tgt := 15) hx hb dX5_in_11 (by decide) ?_
      exact xe_i hx hb hr rfl hlocks hW ⟨rfl, tv.one (by first | omega | grind)⟩ (Nat.le_refl _) (Nat.le_refl _) dX5_in_15

set_option maxHeartbeats 4000000 in
set_option maxRecDepth 100000 in
theorem c_X5_isLand (l : Launch) (D : xD) (sa : Nat → Nat) (xa : xA) (G : xG) (v : Int32) : xCi l yX5_isLand wsX5_isLand ({ frames := 12, cells := 0, slots := 0, locals := 300 } : Room) D sa xa G [.int v] (fun r u => u = (xa, G) ∧ tv r (pL v)) 0 0 := by
  intro sz
  refine Met.ofW (cc := cX5_isLand) (maxL := 1) (ret := (some .boolean)) (by decide +kernel) rfl ?_
  intro p e s m args below meth c s₁ B hml hv
  obtain ⟨rfl, hsz, hv2⟩ := hv
  subst hsz
  have hx := B.exec
  have hb := B.bytes
  have hr := B.returns
  have hts := atoms_spec (ws := wsX5_isLand) B.pre
  have hown : s.vm.findClass RX5 = some m.cls := findClass_of_methodNamed B.named
  have hlocks := B.notSynchronized
  have hW := xW.start (s := s) ⟨rfl, hv2⟩
  clear hv2
  generalize xAw xa (G) s.heap.size = A at hW ⊢
  have hl := lv_entry ([.int (v)]) (n := 1) (Nat.le_of_ble_eq_true rfl)
  rw [lg_entry_eq]
  generalize (lg_sl ([.int (v)]) ++ List.replicate (1 - (lg_sl ([.int (v)])).length) Slot.unset).toArray = ls at hl ⊢
  have hl : lv_has ls 1 [(0, .int (v))] := hl
  refine lv_iload_n hx hb dX5_isLand_0 rfl (lv_at hl 0 rfl) ?_
  refine lv_iconst (v := nI (0)) hx hb dX5_isLand_1 (by decide +kernel) ?_
  refine lv_iconst (v := nI (4)) hx hb dX5_isLand_2 (by decide +kernel) ?_
  refine xs_i (As := [.int (v), .int (nI (0)), .int (nI (4))]) (rest := []) ⟨hx, hb, hml, hown, hts⟩ (c_X5_in l D sa xa G (v) (nI (0)) (nI (4))) (va_cwS 3 hts gX5_isLand_X5_in rfl rfl rfl (by decide +kernel) ⟨Nat.le_of_ble_eq_true rfl, Nat.le_of_ble_eq_true rfl⟩) hW rfl rfl hl.1 (Nat.le_of_ble_eq_true rfl) dX5_isLand_3 ⟨Nat.le_of_ble_eq_true rfl, Nat.le_of_ble_eq_true rfl⟩ (fun r_3 xa1 G1 H locs hp hW => ?_)
  obtain ⟨hu, hr_3⟩ := hp
  cases hu
  exact xe_i hx hb hr hr_3.nar hlocks hW ⟨rfl, hr_3.to (by rw [nI_toInt (by omega), nI_toInt (by omega)]; unfold pL; omega)⟩ (Nat.le_refl _) (Nat.le_refl _) dX5_isLand_6

set_option maxHeartbeats 4000000 in
set_option maxRecDepth 100000 in
theorem c_X5_isPerson (l : Launch) (D : xD) (sa : Nat → Nat) (xa : xA) (G0 : xG) (σ : Sg) (ρ : Nat → Nat) (la : Nat) (hB : ∀ j i, σ j i < 65536) (v : Int32) : mRd l yX5_isPerson wsX5_isPerson ({ frames := 12, cells := 0, slots := 0, locals := 300 } : Room) D sa xa G0 σ ρ la [.int v] (fun r => tv r (pP σ v)) := by
  intro sz
  refine Met.ofW (cc := cX5_isPerson) (maxL := 2) (ret := (some .boolean)) (by decide +kernel) rfl ?_
  intro p e s m args below meth c s₁ B hml hv
  obtain ⟨rfl, hsz, hv2⟩ := hv
  subst hsz
  have hx := B.exec
  have hb := B.bytes
  have hr := B.returns
  have hts := atoms_spec (ws := wsX5_isPerson) B.pre
  have hown : s.vm.findClass RX5 = some m.cls := findClass_of_methodNamed B.named
  have hlocks := B.notSynchronized
  have hin5 : ∀ w ∈ wsX50, w ∈ wsX5_isPerson := by decide +kernel
  have hW := xW.start (s := s) ⟨rfl, hv2⟩
  clear hv2
  generalize xAw xa (mG G0 D xa σ ρ la) s.heap.size = A at hW ⊢
  have hl := lv_entry ([.ref (xa 20 0), .int (v)]) (n := 2) (Nat.le_of_ble_eq_true rfl)
  rw [lg_entry_eq]
  generalize (lg_sl ([.ref (xa 20 0), .int (v)]) ++ List.replicate (2 - (lg_sl ([.ref (xa 20 0), .int (v)])).length) Slot.unset).toArray = ls at hl ⊢
  have hl : lv_has ls 2 [(0, .ref (xa 20 0)), (1, .int (v))] := hl
  refine lv_iload_n hx hb dX5_isPerson_0 rfl (lv_at hl 1 rfl) ?_
  refine lv_iconst (v := nI (0)) hx hb dX5_isPerson_1 (by decide +kernel) ?_
  refine lv_aload_n hx hb dX5_isPerson_2 rfl (lv_at hl 0 rfl) ?_
  refine m_get hx hb hts hin5 hown hW 5 (by decide) rfl (hts (.fieldLink RX5 66 "RestitutoryModel" "people" "I") (by decide +kernel)) (v := .int (nI (σ 5 0))) rfl dX5_isPerson_3 ?_
  have b_3 := hB 5 0
  refine lv_iconst (v := nI (1)) hx hb dX5_isPerson_6 (by decide +kernel) ?_
  refine lv_isub hx hb dX5_isPerson_7 ?_
  refine xs_i (As := [.int (v), .int (nI (0)), .int ((nI (σ 5 0)) - (nI (1)))]) (rest := []) ⟨hx, hb, hml, hown, hts⟩ (c_X5_in l D sa xa (mG G0 D xa σ ρ la) (v) (nI (0)) ((nI (σ 5 0)) - (nI (1)))) (va_cwS 3 hts gX5_isPerson_X5_in rfl rfl rfl (by decide +kernel) ⟨Nat.le_of_ble_eq_true rfl, Nat.le_of_ble_eq_true rfl⟩) hW rfl rfl hl.1 (Nat.le_of_ble_eq_true rfl) dX5_isPerson_8 ⟨Nat.le_of_ble_eq_true rfl, Nat.le_of_ble_eq_true rfl⟩ (fun r_8 xa1 G1 H locs hp hW => ?_)
  obtain ⟨hu, hr_8⟩ := hp
  cases hu
  exact xe_i hx hb hr hr_8.nar hlocks hW ⟨rfl, hr_8.to (by rw [nI_toInt (by omega)]; have h1 : (nI (σ 5 0) - nI 1).toInt = (σ 5 0 : Int) - 1 := pk_sub_toInt (by omega) (by omega); rw [h1]; unfold pP; omega)⟩ (Nat.le_refl _) (Nat.le_refl _) dX5_isPerson_11

set_option maxHeartbeats 4000000 in
set_option maxRecDepth 100000 in
theorem c_X5_isThing (l : Launch) (D : xD) (sa : Nat → Nat) (xa : xA) (G0 : xG) (σ : Sg) (ρ : Nat → Nat) (la : Nat) (hB : ∀ j i, σ j i < 65536) (v : Int32) : mRd l yX5_isThing wsX5_isThing ({ frames := 12, cells := 0, slots := 0, locals := 300 } : Room) D sa xa G0 σ ρ la [.int v] (fun r => tv r (pT σ v)) := by
  intro sz
  refine Met.ofW (cc := cX5_isThing) (maxL := 2) (ret := (some .boolean)) (by decide +kernel) rfl ?_
  intro p e s m args below meth c s₁ B hml hv
  obtain ⟨rfl, hsz, hv2⟩ := hv
  subst hsz
  have hx := B.exec
  have hb := B.bytes
  have hr := B.returns
  have hts := atoms_spec (ws := wsX5_isThing) B.pre
  have hown : s.vm.findClass RX5 = some m.cls := findClass_of_methodNamed B.named
  have hlocks := B.notSynchronized
  have hin5 : ∀ w ∈ wsX50, w ∈ wsX5_isThing := by decide +kernel
  have hW := xW.start (s := s) ⟨rfl, hv2⟩
  clear hv2
  generalize xAw xa (mG G0 D xa σ ρ la) s.heap.size = A at hW ⊢
  have hl := lv_entry ([.ref (xa 20 0), .int (v)]) (n := 2) (Nat.le_of_ble_eq_true rfl)
  rw [lg_entry_eq]
  generalize (lg_sl ([.ref (xa 20 0), .int (v)]) ++ List.replicate (2 - (lg_sl ([.ref (xa 20 0), .int (v)])).length) Slot.unset).toArray = ls at hl ⊢
  have hl : lv_has ls 2 [(0, .ref (xa 20 0)), (1, .int (v))] := hl
  refine lv_iload_n hx hb dX5_isThing_0 rfl (lv_at hl 1 rfl) ?_
  refine lv_iconst (v := nI (0)) hx hb dX5_isThing_1 (by decide +kernel) ?_
  refine lv_aload_n hx hb dX5_isThing_2 rfl (lv_at hl 0 rfl) ?_
  refine m_get hx hb hts hin5 hown hW 12 (by decide) rfl (hts (.fieldLink RX5 73 "RestitutoryModel" "things" "I") (by decide +kernel)) (v := .int (nI (σ 12 0))) rfl dX5_isThing_3 ?_
  have b_3 := hB 12 0
  refine lv_iconst (v := nI (1)) hx hb dX5_isThing_6 (by decide +kernel) ?_
  refine lv_isub hx hb dX5_isThing_7 ?_
  refine xs_i (As := [.int (v), .int (nI (0)), .int ((nI (σ 12 0)) - (nI (1)))]) (rest := []) ⟨hx, hb, hml, hown, hts⟩ (c_X5_in l D sa xa (mG G0 D xa σ ρ la) (v) (nI (0)) ((nI (σ 12 0)) - (nI (1)))) (va_cwS 3 hts gX5_isThing_X5_in rfl rfl rfl (by decide +kernel) ⟨Nat.le_of_ble_eq_true rfl, Nat.le_of_ble_eq_true rfl⟩) hW rfl rfl hl.1 (Nat.le_of_ble_eq_true rfl) dX5_isThing_8 ⟨Nat.le_of_ble_eq_true rfl, Nat.le_of_ble_eq_true rfl⟩ (fun r_8 xa1 G1 H locs hp hW => ?_)
  obtain ⟨hu, hr_8⟩ := hp
  cases hu
  exact xe_i hx hb hr hr_8.nar hlocks hW ⟨rfl, hr_8.to (by rw [nI_toInt (by omega)]; have h1 : (nI (σ 12 0) - nI 1).toInt = (σ 12 0 : Int) - 1 := pk_sub_toInt (by omega) (by omega); rw [h1]; unfold pT; omega)⟩ (Nat.le_refl _) (Nat.le_refl _) dX5_isThing_11

set_option maxHeartbeats 4000000 in
set_option maxRecDepth 100000 in
theorem c_X5_isStation (l : Launch) (D : xD) (sa : Nat → Nat) (xa : xA) (G0 : xG) (σ : Sg) (ρ : Nat → Nat) (la : Nat) (hB : ∀ j i, σ j i < 65536) (hT0 : σ 12 0 ≤ 10) (t x : Int32) : mRd l yX5_isStation wsX5_isStation ({ frames := 14, cells := 0, slots := 0, locals := 400 } : Room) D sa xa G0 σ ρ la [.int t, .int x] (fun r => tv r (pS σ t x)) := by
  intro sz
  refine Met.ofW (cc := cX5_isStation) (maxL := 3) (ret := (some .boolean)) (by decide +kernel) rfl ?_
  intro p e s m args below meth c s₁ B hml hv
  obtain ⟨rfl, hsz, hv2⟩ := hv
  subst hsz
  have hx := B.exec
  have hb := B.bytes
  have hr := B.returns
  have hts := atoms_spec (ws := wsX5_isStation) B.pre
  have hown : s.vm.findClass RX5 = some m.cls := findClass_of_methodNamed B.named
  have hlocks := B.notSynchronized
  have hin5 : ∀ w ∈ wsX50, w ∈ wsX5_isStation := by decide +kernel
  have hW := xW.start (s := s) ⟨rfl, hv2⟩
  clear hv2
  generalize xAw xa (mG G0 D xa σ ρ la) s.heap.size = A at hW ⊢
  have hl := lv_entry ([.ref (xa 20 0), .int (t), .int (x)]) (n := 3) (Nat.le_of_ble_eq_true rfl)
  rw [lg_entry_eq]
  generalize (lg_sl ([.ref (xa 20 0), .int (t), .int (x)]) ++ List.replicate (3 - (lg_sl ([.ref (xa 20 0), .int (t), .int (x)])).length) Slot.unset).toArray = ls at hl ⊢
  have hl : lv_has ls 3 [(0, .ref (xa 20 0)), (1, .int (t)), (2, .int (x))] := hl
  refine lv_aload_n hx hb dX5_isStation_0 rfl (lv_at hl 0 rfl) ?_
  refine lv_iload_n hx hb dX5_isStation_1 rfl (lv_at hl 1 rfl) ?_
  refine xv_i (As := [.int (t)]) (rest := []) ⟨hx, hb, hml, hown, hts⟩ (c_X5_isThing l D sa xa G0 σ ρ la hB t) (cwV 1 hts gX5_isStation_X5_isThing rfl rfl rfl (by decide +kernel) ⟨Nat.le_of_ble_eq_true rfl, Nat.le_of_ble_eq_true rfl⟩) hW (mG_obj _ _ _ _ _ _) rfl rfl rfl rfl hl.1 (Nat.le_of_ble_eq_true rfl) dX5_isStation_2 ⟨Nat.le_of_ble_eq_true rfl, Nat.le_of_ble_eq_true rfl⟩ (fun r_2 xa1 G1 H locs hp hW => ?_)
  obtain ⟨hu, hr_2⟩ := hp
  cases hu
  refine lv_if_eq (tgt := 28) hx hb dX5_isStation_5 (by decide) (fun c_5 => ?_) (fun c_5 => ?_)
  · -- eq taken
    have c_5 := hr_2.f c_5
    refine lv_iconst (v := nI (0)) hx hb dX5_isStation_28 (by decide +kernel) ?_
    exact xe_i hx hb hr rfl hlocks hW ⟨rfl, tv.zero (fun h => c_5 h.1)⟩ (Nat.le_refl _) (Nat.le_refl _) dX5_isStation_29
  · -- eq not
    have c_5 := hr_2.t c_5
    have hT := c_5
    unfold pT at hT
    obtain ⟨ti, hti, rfl⟩ := x_nat (n := σ 12 0) hT.1 hT.2
    refine lv_iload_n hx hb dX5_isStation_8 rfl (lv_at hl 2 rfl) ?_
    refine lv_iconst (v := nI (0)) hx hb dX5_isStation_9 (by decide +kernel) ?_
    refine lv_aload_n hx hb dX5_isStation_10 rfl (lv_at hl 0 rfl) ?_
    refine m_get hx hb hts hin5 hown hW 11 (by decide) rfl (hts (.fieldLink RX5 39 "RestitutoryModel" "stationMany" "[I") (by decide +kernel)) (v := .ref (xa 20 11)) rfl dX5_isStation_11 ?_
    refine lv_iload_n hx hb dX5_isStation_14 rfl (lv_at hl 1 rfl) ?_
    refine m_ild hx hb hW 11 10 (by unfold mArr; decide) rfl rfl (ti) (by omega) (v := σ 11 ti) rfl dX5_isStation_15 ?_
    have b_15 := hB 11 (ti)
    refine lv_iconst (v := nI (1)) hx hb dX5_isStation_16 (by decide +kernel) ?_
    refine lv_isub hx hb dX5_isStation_17 ?_
    refine xs_i (As := [.int (x), .int (nI (0)), .int ((nI (σ 11 ti)) - (nI (1)))]) (rest := []) ⟨hx, hb, hml, hown, hts⟩ (c_X5_in l D sa xa (mG G0 D xa σ ρ la) (x) (nI (0)) ((nI (σ 11 ti)) - (nI (1)))) (va_cwS 3 hts gX5_isStation_X5_in rfl rfl rfl (by decide +kernel) ⟨Nat.le_of_ble_eq_true rfl, Nat.le_of_ble_eq_true rfl⟩) hW rfl rfl hl.1 (Nat.le_of_ble_eq_true rfl) dX5_isStation_18 ⟨Nat.le_of_ble_eq_true rfl, Nat.le_of_ble_eq_true rfl⟩ (fun r_18 xa1 G1 H locs hp hW => ?_)
    obtain ⟨hu, hr_18⟩ := hp
    cases hu
    refine lv_if_eq (tgt := 28) hx hb dX5_isStation_21 (by decide) (fun c_21 => ?_) (fun c_21 => ?_)
    · -- eq taken
      have c_21 := hr_18.f c_21
      refine lv_iconst (v := nI (0)) hx hb dX5_isStation_28 (by decide +kernel) ?_
      exact xe_i hx hb hr rfl hlocks hW ⟨rfl, tv.zero (fun h => c_21 (by have h1 := h.2; rw [xn_nI (by omega)] at h1; rw [nI_toInt (by omega), pk_sub_toInt (by omega) (by omega)]; omega))⟩ (Nat.le_refl _) (Nat.le_refl _) dX5_isStation_29
    · -- eq not
      have c_21 := hr_18.t c_21
      refine lv_iconst (v := nI (1)) hx hb dX5_isStation_24 (by decide +kernel) ?_
      refine lv_goto (tgt := 29) hx hb dX5_isStation_25 (by decide) ?_
      exact xe_i hx hb hr rfl hlocks hW ⟨rfl, tv.one (by unfold pS; rw [xn_nI (by omega)]; have h1 := c_21.1; have h2 := c_21.2; rw [nI_toInt (by omega)] at h1; rw [pk_sub_toInt (by omega) (by omega)] at h2; exact ⟨c_5, by omega, by omega⟩)⟩ (Nat.le_refl _) (Nat.le_refl _) dX5_isStation_29

set_option maxHeartbeats 4000000 in
set_option maxRecDepth 100000 in
theorem c_X5_goes (l : Launch) (D : xD) (sa : Nat → Nat) (xa : xA) (G0 : xG) (σ : Sg) (ρ : Nat → Nat) (la : Nat) (hB : ∀ j i, σ j i < 65536) {P1 P2 P3 : Prop} {a b d : Int32} (ha : tv a P1) (hb2 : tv b P2) (hd : tv d P3) : xCi l yX5_goes wsX5_goes ({ frames := 10, cells := 0, slots := 0, locals := 200 } : Room) D sa xa (mG G0 D xa σ ρ la) [.ref (xa 20 0), .int a, .int b, .int d] (fun r u => ∃ la1, u = (xa, mG G0 D xa σ ρ la1) ∧ tv r (la1 = 0) ∧ gk P1 P2 P3 la1) 0 0 := by
  intro sz
  refine Met.ofW (cc := cX5_goes) (maxL := 4) (ret := (some .boolean)) (by decide +kernel) rfl ?_
  intro p e s m args below meth c s₁ B hml hv
  obtain ⟨rfl, hsz, hv2⟩ := hv
  subst hsz
  have hx := B.exec
  have hb := B.bytes
  have hr := B.returns
  have hts := atoms_spec (ws := wsX5_goes) B.pre
  have hown : s.vm.findClass RX5 = some m.cls := findClass_of_methodNamed B.named
  have hlocks := B.notSynchronized
  have hin5 : ∀ w ∈ wsX50, w ∈ wsX5_goes := by decide +kernel
  have hW := xW.start (s := s) ⟨rfl, hv2⟩
  clear hv2
  generalize xAw xa (mG G0 D xa σ ρ la) s.heap.size = A at hW ⊢
  have hl := lv_entry ([.ref (xa 20 0), .int (a), .int (b), .int (d)]) (n := 4) (Nat.le_of_ble_eq_true rfl)
  rw [lg_entry_eq]
  generalize (lg_sl ([.ref (xa 20 0), .int (a), .int (b), .int (d)]) ++ List.replicate (4 - (lg_sl ([.ref (xa 20 0), .int (a), .int (b), .int (d)])).length) Slot.unset).toArray = ls at hl ⊢
  have hl : lv_has ls 4 [(0, .ref (xa 20 0)), (1, .int (a)), (2, .int (b)), (3, .int (d))] := hl
  refine lv_aload_n hx hb dX5_goes_0 rfl (lv_at hl 0 rfl) ?_
  refine lv_iload_n hx hb dX5_goes_1 rfl (lv_at hl 1 rfl) ?_
  refine lv_if_ne (tgt := 9) hx hb dX5_goes_2 (by decide) (fun c_2 => ?_) (fun c_2 => ?_)
  · -- ne taken
    have c_2 := ha.t c_2
    refine lv_iload_n hx hb dX5_goes_9 rfl (lv_at hl 2 rfl) ?_
    refine lv_if_ne (tgt := 17) hx hb dX5_goes_10 (by decide) (fun c_10 => ?_) (fun c_10 => ?_)
    · -- ne taken
      have c_10 := hb2.t c_10
      refine lv_iload_n hx hb dX5_goes_17 rfl (lv_at hl 3 rfl) ?_
      refine lv_if_eq (tgt := 25) hx hb dX5_goes_18 (by decide) (fun c_18 => ?_) (fun c_18 => ?_)
      · -- eq taken
        have c_18 := hd.f c_18
        refine lv_iconst (v := nI (3)) hx hb dX5_goes_25 (by decide +kernel) ?_
        refine m_putLa hx hb hts hin5 hown hW (hts (.fieldLink RX5 63 "RestitutoryModel" "last" "I") (by decide +kernel)) (v := 3) dX5_goes_26 (fun H locs hW => ?_)
        refine lv_aload_n hx hb dX5_goes_29 rfl (lv_at hl 0 rfl) ?_
        refine m_get hx hb hts hin5 hown hW 20 (by decide) rfl (hts (.fieldLink RX5 63 "RestitutoryModel" "last" "I") (by decide +kernel)) (v := .int (nI (3))) rfl dX5_goes_30 ?_
        refine lv_if_ne (tgt := 40) hx hb dX5_goes_33 (by decide) (fun c_33 => ?_) (fun c_33 => ?_)
        · -- ne taken
          refine lv_iconst (v := nI (0)) hx hb dX5_goes_40 (by decide +kernel) ?_
          exact xe_i hx hb hr rfl hlocks hW ⟨3, rfl, tv.zero (by omega), by unfold gk; grind⟩ (Nat.le_refl _) (Nat.le_refl _) dX5_goes_41
        · -- ne not
          exact absurd c_33 (by decide)
      · -- eq not
        have c_18 := hd.t c_18
        refine lv_iconst (v := nI (0)) hx hb dX5_goes_21 (by decide +kernel) ?_
        refine lv_goto (tgt := 26) hx hb dX5_goes_22 (by decide) ?_
        refine m_putLa hx hb hts hin5 hown hW (hts (.fieldLink RX5 63 "RestitutoryModel" "last" "I") (by decide +kernel)) (v := 0) dX5_goes_26 (fun H locs hW => ?_)
        refine lv_aload_n hx hb dX5_goes_29 rfl (lv_at hl 0 rfl) ?_
        refine m_get hx hb hts hin5 hown hW 20 (by decide) rfl (hts (.fieldLink RX5 63 "RestitutoryModel" "last" "I") (by decide +kernel)) (v := .int (nI (0))) rfl dX5_goes_30 ?_
        refine lv_if_ne (tgt := 40) hx hb dX5_goes_33 (by decide) (fun c_33 => ?_) (fun c_33 => ?_)
        · -- ne taken
          exact absurd rfl c_33
        · -- ne not
          refine lv_iconst (v := nI (1)) hx hb dX5_goes_36 (by decide +kernel) ?_
          refine lv_goto (tgt := 41) hx hb dX5_goes_37 (by decide) ?_
          exact xe_i hx hb hr rfl hlocks hW ⟨0, rfl, tv.one (by omega), by unfold gk; grind⟩ (Nat.le_refl _) (Nat.le_refl _) dX5_goes_41
    · -- ne not
      have c_10 := hb2.f c_10
      refine lv_iconst (v := nI (2)) hx hb dX5_goes_13 (by decide +kernel) ?_
      refine lv_goto (tgt := 26) hx hb dX5_goes_14 (by decide) ?_
      refine m_putLa hx hb hts hin5 hown hW (hts (.fieldLink RX5 63 "RestitutoryModel" "last" "I") (by decide +kernel)) (v := 2) dX5_goes_26 (fun H locs hW => ?_)
      refine lv_aload_n hx hb dX5_goes_29 rfl (lv_at hl 0 rfl) ?_
      refine m_get hx hb hts hin5 hown hW 20 (by decide) rfl (hts (.fieldLink RX5 63 "RestitutoryModel" "last" "I") (by decide +kernel)) (v := .int (nI (2))) rfl dX5_goes_30 ?_
      refine lv_if_ne (tgt := 40) hx hb dX5_goes_33 (by decide) (fun c_33 => ?_) (fun c_33 => ?_)
      · -- ne taken
        refine lv_iconst (v := nI (0)) hx hb dX5_goes_40 (by decide +kernel) ?_
        exact xe_i hx hb hr rfl hlocks hW ⟨2, rfl, tv.zero (by omega), by unfold gk; grind⟩ (Nat.le_refl _) (Nat.le_refl _) dX5_goes_41
      · -- ne not
        exact absurd c_33 (by decide)
  · -- ne not
    have c_2 := ha.f c_2
    refine lv_iconst (v := nI (1)) hx hb dX5_goes_5 (by decide +kernel) ?_
    refine lv_goto (tgt := 26) hx hb dX5_goes_6 (by decide) ?_
    refine m_putLa hx hb hts hin5 hown hW (hts (.fieldLink RX5 63 "RestitutoryModel" "last" "I") (by decide +kernel)) (v := 1) dX5_goes_26 (fun H locs hW => ?_)
    refine lv_aload_n hx hb dX5_goes_29 rfl (lv_at hl 0 rfl) ?_
    refine m_get hx hb hts hin5 hown hW 20 (by decide) rfl (hts (.fieldLink RX5 63 "RestitutoryModel" "last" "I") (by decide +kernel)) (v := .int (nI (1))) rfl dX5_goes_30 ?_
    refine lv_if_ne (tgt := 40) hx hb dX5_goes_33 (by decide) (fun c_33 => ?_) (fun c_33 => ?_)
    · -- ne taken
      refine lv_iconst (v := nI (0)) hx hb dX5_goes_40 (by decide +kernel) ?_
      exact xe_i hx hb hr rfl hlocks hW ⟨1, rfl, tv.zero (by omega), by unfold gk; grind⟩ (Nat.le_refl _) (Nat.le_refl _) dX5_goes_41
    · -- ne not
      exact absurd c_33 (by decide)
