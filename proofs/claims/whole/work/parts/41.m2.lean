set_option maxHeartbeats 4000000 in
set_option maxRecDepth 100000 in
theorem c_X5_isHeir (l : Launch) (D : xD) (sa : Nat → Nat) (xa : xA) (G0 : xG) (σ : Sg) (ρ : Nat → Nat) (la : Nat) (hB : ∀ j i, σ j i < 65536) (i h : Nat) (hi : i < 12) (hh : h < 12) (hm : σ 4 i ≤ 12) : mRd l yX5_isHeir wsX5_isHeir ({ frames := 10, cells := 0, slots := 0, locals := 200 } : Room) D sa xa G0 σ ρ la [.int (nI i), .int (nI h)] (fun r => tv r (hH σ i h)) := by
  intro sz
  refine Met.ofW (cc := cX5_isHeir) (maxL := 5) (ret := (some .boolean)) (by decide +kernel) rfl ?_
  intro p e s m args below meth c s₁ B hml hv
  obtain ⟨rfl, hsz, hv2⟩ := hv
  subst hsz
  have hx := B.exec
  have hb := B.bytes
  have hr := B.returns
  have hts := atoms_spec (ws := wsX5_isHeir) B.pre
  have hown : s.vm.findClass RX5 = some m.cls := findClass_of_methodNamed B.named
  have hlocks := B.notSynchronized
  have hin5 : ∀ w ∈ wsX50, w ∈ wsX5_isHeir := by decide +kernel
  have hW := xW.start (s := s) ⟨rfl, hv2⟩
  clear hv2
  generalize xAw xa (mG G0 D xa σ ρ la) s.heap.size = A at hW ⊢
  have hl := lv_entry ([.ref (xa 20 0), .int (nI (i)), .int (nI (h))]) (n := 5) (Nat.le_of_ble_eq_true rfl)
  rw [lg_entry_eq]
  generalize (lg_sl ([.ref (xa 20 0), .int (nI (i)), .int (nI (h))]) ++ List.replicate (5 - (lg_sl ([.ref (xa 20 0), .int (nI (i)), .int (nI (h))])).length) Slot.unset).toArray = ls at hl ⊢
  have hl : lv_has ls 5 [(0, .ref (xa 20 0)), (1, .int (nI (i))), (2, .int (nI (h)))] := hl
  refine lv_iconst (v := nI (0)) hx hb dX5_isHeir_0 (by decide +kernel) ?_
  refine lv_istore_n (lv' := [(3, .int (nI (0))), (0, .ref (xa 20 0)), (1, .int (nI (i))), (2, .int (nI (h)))]) hx hb dX5_isHeir_1 rfl hl (by decide) rfl (fun ls hl => ?_)
  have hl : lv_has ls 5 [(0, .ref (xa 20 0)), (1, .int (nI (i))), (2, .int (nI (h))), (3, .int (nI (0)))] := lv_sub hl [1, 2, 3, 0] rfl
  refine lv_iconst (v := nI (0)) hx hb dX5_isHeir_2 (by decide +kernel) ?_
  refine lv_istore (lv' := [(4, .int (nI (0))), (0, .ref (xa 20 0)), (1, .int (nI (i))), (2, .int (nI (h))), (3, .int (nI (0)))]) hx hb dX5_isHeir_3 hl (by decide) rfl (fun ls hl => ?_)
  have hl : lv_has ls 5 [(0, .ref (xa 20 0)), (1, .int (nI (i))), (2, .int (nI (h))), (3, .int (nI (0))), (4, .int (nI (0)))] := lv_sub hl [1, 2, 3, 4, 0] rfl
  refine x_loop (X := Int32 × Nat) (I := fun n xv H locs ls => n = σ 4 i - xv.2 ∧ xW D sa A s xa (mG G0 D xa σ ρ la) H locs ∧ lv_has ls 5 [(0, .ref (xa 20 0)), (1, .int (nI (i))), (2, .int (nI (h))), (3, .int (xv.1)), (4, .int (nI (xv.2)))] ∧ (tv xv.1 (∃ j, j < xv.2 ∧ σ 3 (12 * i + j) = h)) ∧ (xv.2 ≤ σ 4 i)) (hd := 5) ?_ (n := _) (x := (nI 0, 0)) ⟨rfl, hW, hl, tv.zero (by rintro ⟨j, hj, -⟩; omega), by (try dsimp only); omega⟩
  rintro n ⟨r, k⟩ H locs ls ⟨hn, hW, hl, hr3, hk⟩ ih5
  try dsimp only at hn hW hl hr3 hk
  refine lv_iload hx hb dX5_isHeir_5 (lv_at hl 4 rfl) ?_
  refine lv_aload_n hx hb dX5_isHeir_7 rfl (lv_at hl 0 rfl) ?_
  refine m_get hx hb hts hin5 hown hW 4 (by decide) rfl (hts (.fieldLink RX5 24 "RestitutoryModel" "heirMany" "[I") (by decide +kernel)) (v := .ref (xa 20 4)) rfl dX5_isHeir_8 ?_
  refine lv_iload_n hx hb dX5_isHeir_11 rfl (lv_at hl 1 rfl) ?_
  refine m_ild hx hb hW 4 12 (by unfold mArr; decide) rfl rfl (i) (by omega) (v := σ 4 i) rfl dX5_isHeir_12 ?_
  have b_12 := hB 4 (i)
  refine lv_icmp_ge (tgt := 48) hx hb dX5_isHeir_13 (by decide) (fun c_13 => ?_) (fun c_13 => ?_)
  · -- ge taken
    have c_13 := Int32.le_iff_toInt_le.mp c_13
    rw [nI_toInt (n := k) (by omega)] at c_13
    rw [nI_toInt (n := σ 4 i) (by omega)] at c_13
    refine lv_iload_n hx hb dX5_isHeir_48 rfl (lv_at hl 3 rfl) ?_
    exact xe_i hx hb hr hr3.nar hlocks hW ⟨rfl, hr3.to (by unfold hH; rw [show k = σ 4 i by omega])⟩ (Nat.le_refl _) (Nat.le_refl _) dX5_isHeir_49
  · -- ge not
    have c_13 : ¬ ((nI (σ 4 i)).toInt ≤ (nI (k)).toInt) := fun h => c_13 (Int32.le_iff_toInt_le.mpr h)
    rw [nI_toInt (n := k) (by omega)] at c_13
    rw [nI_toInt (n := σ 4 i) (by omega)] at c_13
    refine x_joinW (ls := ls) (D := D) (sa := sa) (A := A) (xa := xa) (G := mG G0 D xa σ ρ la) (P := ∃ j, j < k + 1 ∧ σ 3 (12 * i + j) = h) (mpc := 41) (rest := []) (fun H locs r_41 hW h_41 => ?_) (fun J41 => ?_)
    ·
      refine lv_istore_n (lv' := [(3, .int (r_41)), (0, .ref (xa 20 0)), (1, .int (nI (i))), (2, .int (nI (h))), (4, .int (nI (k)))]) hx hb dX5_isHeir_41 rfl hl (by decide) rfl (fun ls hl => ?_)
      have hl : lv_has ls 5 [(0, .ref (xa 20 0)), (1, .int (nI (i))), (2, .int (nI (h))), (3, .int (r_41)), (4, .int (nI (k)))] := lv_sub hl [1, 2, 3, 0, 4] rfl
      refine lv_iinc (v := nI (k + 1)) (lv' := [(4, .int (nI (k + 1))), (0, .ref (xa 20 0)), (1, .int (nI (i))), (2, .int (nI (h))), (3, .int (r_41))]) hx hb dX5_isHeir_42 hl (k := 4) rfl (x_inc k 1 rfl) (by decide) rfl (fun ls hl => ?_)
      have hl : lv_has ls 5 [(0, .ref (xa 20 0)), (1, .int (nI (i))), (2, .int (nI (h))), (3, .int (r_41)), (4, .int (nI (k + 1)))] := lv_sub hl [1, 2, 3, 4, 0] rfl
      refine lv_goto (tgt := 5) hx hb dX5_isHeir_45 (by decide) ?_
      exact ih5 (σ 4 i - (k + 1)) (r_41, k + 1) _ _ _ (by omega) ⟨rfl, hW, hl, h_41, by (try dsimp only); omega⟩
    ·
      refine lv_iload_n hx hb dX5_isHeir_16 rfl (lv_at hl 3 rfl) ?_
      refine lv_if_ne (tgt := 36) hx hb dX5_isHeir_17 (by decide) (fun c_17 => ?_) (fun c_17 => ?_)
      · -- ne taken
        have c_17 := hr3.t c_17
        refine lv_iconst (v := nI (1)) hx hb dX5_isHeir_36 (by decide +kernel) ?_
        refine lv_goto (tgt := 41) hx hb dX5_isHeir_37 (by decide) ?_
        exact J41 _ _ _ hW (tv.one (by first | (obtain ⟨j, hj, he⟩ := c_17; exact ⟨j, by omega, he⟩) | exact ⟨k, by omega, c_33⟩))
      · -- ne not
        have c_17 := hr3.f c_17
        refine lv_aload_n hx hb dX5_isHeir_20 rfl (lv_at hl 0 rfl) ?_
        refine m_get hx hb hts hin5 hown hW 3 (by decide) rfl (hts (.fieldLink RX5 21 "RestitutoryModel" "heirs" "[I") (by decide +kernel)) (v := .ref (xa 20 3)) rfl dX5_isHeir_21 ?_
        refine lv_bipush (v := nI (12)) hx hb dX5_isHeir_24 (by decide +kernel) ?_
        refine lv_iload_n hx hb dX5_isHeir_26 rfl (lv_at hl 1 rfl) ?_
        refine lv_imul hx hb dX5_isHeir_27 ?_
        rw [pk_mul]
        refine lv_iload hx hb dX5_isHeir_28 (lv_at hl 4 rfl) ?_
        refine lv_iadd hx hb dX5_isHeir_30 ?_
        rw [nI_add]
        refine m_ild hx hb hW 3 144 (by unfold mArr; decide) rfl rfl ((12 * i) + k) (by omega) (v := σ 3 ((12 * i) + k)) rfl dX5_isHeir_31 ?_
        have b_31 := hB 3 ((12 * i) + k)
        refine lv_iload_n hx hb dX5_isHeir_32 rfl (lv_at hl 2 rfl) ?_
        refine lv_icmp_ne (tgt := 40) hx hb dX5_isHeir_33 (by decide) (fun c_33 => ?_) (fun c_33 => ?_)
        · -- ne taken
          have c_33 : ¬ (σ 3 ((12 * i) + k) = h) := fun h_ => c_33 ((x_eqN (a := σ 3 ((12 * i) + k)) (b := h) (by omega) (by omega)).mpr h_)
          refine lv_iconst (v := nI (0)) hx hb dX5_isHeir_40 (by decide +kernel) ?_
          exact J41 _ _ _ hW (tv.zero (by rintro ⟨j, hj, he⟩; by_cases hjk : j = k; exact c_33 (by rw [← hjk]; exact he); exact c_17 ⟨j, by omega, he⟩))
        · -- ne not
          have c_33 := (x_eqN (a := σ 3 ((12 * i) + k)) (b := h) (by omega) (by omega)).mp c_33
          refine lv_iconst (v := nI (1)) hx hb dX5_isHeir_36 (by decide +kernel) ?_
          refine lv_goto (tgt := 41) hx hb dX5_isHeir_37 (by decide) ?_
          exact J41 _ _ _ hW (tv.one (by first | (obtain ⟨j, hj, he⟩ := c_17; exact ⟨j, by omega, he⟩) | exact ⟨k, by omega, c_33⟩))

set_option maxHeartbeats 4000000 in
set_option maxRecDepth 100000 in
theorem c_X5_person (l : Launch) (D : xD) (sa : Nat → Nat) (xa : xA) (G0 : xG) (σ : Sg) (ρ : Nat → Nat) (la : Nat) (hB : ∀ j i, σ j i < 65536) (h5 : σ 5 0 ≤ 12) (x : Int32) : xCi l yX5_person wsX5_person ({ frames := 16, cells := 0, slots := 0, locals := 500 } : Room) D sa xa (mG G0 D xa σ ρ la) [.ref (xa 20 0), .int x] (fun r u => ∃ k, gk (rg x 0 3) (σ 5 0 < 12) True k ∧ u = (xa, mG G0 D xa (t_person σ x k) ρ k) ∧ (k = 0 → r.toInt = σ 5 0)) 0 0 := by
  intro sz
  refine Met.ofW (cc := cX5_person) (maxL := 2) (ret := (some .int)) (by decide +kernel) rfl ?_
  intro p e s m args below meth c s₁ B hml hv
  obtain ⟨rfl, hsz, hv2⟩ := hv
  subst hsz
  have hx := B.exec
  have hb := B.bytes
  have hr := B.returns
  have hts := atoms_spec (ws := wsX5_person) B.pre
  have hown : s.vm.findClass RX5 = some m.cls := findClass_of_methodNamed B.named
  have hlocks := B.notSynchronized
  have hin5 : ∀ w ∈ wsX50, w ∈ wsX5_person := by decide +kernel
  have hW := xW.start (s := s) ⟨rfl, hv2⟩
  clear hv2
  generalize xAw xa (mG G0 D xa σ ρ la) s.heap.size = A at hW ⊢
  have hl := lv_entry ([.ref (xa 20 0), .int (x)]) (n := 2) (Nat.le_of_ble_eq_true rfl)
  rw [lg_entry_eq]
  generalize (lg_sl ([.ref (xa 20 0), .int (x)]) ++ List.replicate (2 - (lg_sl ([.ref (xa 20 0), .int (x)])).length) Slot.unset).toArray = ls at hl ⊢
  have hl : lv_has ls 2 [(0, .ref (xa 20 0)), (1, .int (x))] := hl
  refine lv_aload_n hx hb dX5_person_0 rfl (lv_at hl 0 rfl) ?_
  refine lv_iload_n hx hb dX5_person_1 rfl (lv_at hl 1 rfl) ?_
  refine lv_iconst (v := nI (0)) hx hb dX5_person_2 (by decide +kernel) ?_
  refine lv_iconst (v := nI (3)) hx hb dX5_person_3 (by decide +kernel) ?_
  refine xs_i (As := [.int (x), .int (nI (0)), .int (nI (3))]) (rest := [.ref (xa 20 0)]) ⟨hx, hb, hml, hown, hts⟩ (c_X5_in l D sa xa (mG G0 D xa σ ρ la) (x) (nI (0)) (nI (3))) (va_cwS 3 hts gX5_person_X5_in rfl rfl rfl (by decide +kernel) ⟨Nat.le_of_ble_eq_true rfl, Nat.le_of_ble_eq_true rfl⟩) hW rfl rfl hl.1 (Nat.le_of_ble_eq_true rfl) dX5_person_4 ⟨Nat.le_of_ble_eq_true rfl, Nat.le_of_ble_eq_true rfl⟩ (fun r_4 xa1 G1 H locs hp hW => ?_)
  obtain ⟨hu, hr_4⟩ := hp
  cases hu
  refine x_joinW (ls := ls) (D := D) (sa := sa) (A := A) (xa := xa) (G := mG G0 D xa σ ρ la) (P := σ 5 0 < 12) (mpc := 21) (rest := [.int (r_4), .ref (xa 20 0)]) (fun H locs r_21 hW h_21 => ?_) (fun J21 => ?_)
  ·
    refine lv_iconst (v := nI (1)) hx hb dX5_person_21 (by decide +kernel) ?_
    refine xv_i (As := [.int (r_4), .int (r_21), .int (nI (1))]) (rest := []) ⟨hx, hb, hml, hown, hts⟩ (c_X5_goes l D sa xa G0 σ ρ la hB hr_4 h_21 (tv.one trivial)) (cwV 3 hts gX5_person_X5_goes rfl rfl rfl (by decide +kernel) ⟨Nat.le_of_ble_eq_true rfl, Nat.le_of_ble_eq_true rfl⟩) hW (mG_obj _ _ _ _ _ _) rfl rfl rfl rfl hl.1 (Nat.le_of_ble_eq_true rfl) dX5_person_22 ⟨Nat.le_of_ble_eq_true rfl, Nat.le_of_ble_eq_true rfl⟩ (fun r_22 xa1 G1 H locs hp hW => ?_)
    obtain ⟨la1, hu, hr_22, hk⟩ := hp
    cases hu
    refine lv_if_ne (tgt := 30) hx hb dX5_person_25 (by decide) (fun c_25 => ?_) (fun c_25 => ?_)
    · -- ne taken
      have c_25 := hr_22.t c_25
      subst c_25
      have hz := hk.zero
      obtain ⟨g, hg, rfl⟩ := x_nat (n := 4) (x := x) (by have h1 := hz.1.1; rw [nI_toInt (by omega)] at h1; omega) (by have h1 := hz.1.2; rw [nI_toInt (by omega)] at h1; omega)
      refine lv_aload_n hx hb dX5_person_30 rfl (lv_at hl 0 rfl) ?_
      refine m_get hx hb hts hin5 hown hW 1 (by decide) rfl (hts (.fieldLink RX5 13 "RestitutoryModel" "groups" "[I") (by decide +kernel)) (v := .ref (xa 20 1)) rfl dX5_person_31 ?_
      refine lv_aload_n hx hb dX5_person_34 rfl (lv_at hl 0 rfl) ?_
      refine m_get hx hb hts hin5 hown hW 5 (by decide) rfl (hts (.fieldLink RX5 66 "RestitutoryModel" "people" "I") (by decide +kernel)) (v := .int (nI (σ 5 0))) rfl dX5_person_35 ?_
      have b_35 := hB 5 0
      refine lv_iload_n hx hb dX5_person_38 rfl (lv_at hl 1 rfl) ?_
      refine m_ist hx hb hW 1 12 (by unfold mArr; decide) rfl rfl (σ 5 0) (by omega) (v := g) dX5_person_39 (fun H locs hW => ?_)
      refine lv_aload_n hx hb dX5_person_40 rfl (lv_at hl 0 rfl) ?_
      refine lv_dup hx hb dX5_person_41 rfl ?_
      refine m_get hx hb hts hin5 hown hW 5 (by decide) rfl (hts (.fieldLink RX5 66 "RestitutoryModel" "people" "I") (by decide +kernel)) (v := .int (nI (σ 5 0))) rfl dX5_person_42 ?_
      have b_42 := hB 5 0
      refine lv_iconst (v := nI (1)) hx hb dX5_person_45 (by decide +kernel) ?_
      refine lv_iadd hx hb dX5_person_46 ?_
      rw [nI_add]
      refine m_put hx hb hts hin5 hown hW 5 (by decide) (hts (.fieldLink RX5 66 "RestitutoryModel" "people" "I") (by decide +kernel)) (v := (σ 5 0) + 1) dX5_person_47 (fun H locs hW => ?_)
      refine lv_aload_n hx hb dX5_person_50 rfl (lv_at hl 0 rfl) ?_
      refine m_get hx hb hts hin5 hown hW 5 (by decide) rfl (hts (.fieldLink RX5 66 "RestitutoryModel" "people" "I") (by decide +kernel)) (v := .int (nI ((σ 5 0) + 1))) rfl dX5_person_51 ?_
      refine lv_iconst (v := nI (1)) hx hb dX5_person_54 (by decide +kernel) ?_
      refine lv_isub hx hb dX5_person_55 ?_
      exact xe_i hx hb hr rfl hlocks hW ⟨0, hk.to (rg_in (by omega) (by omega)) (fun _ => Iff.rfl) (fun _ _ => Iff.rfl), by unfold t_person; simp only [if_true, xn_nI (n := g) (by omega)], fun _ => by rw [pk_sub_toInt (by omega) (by omega)]; omega⟩ (Nat.le_refl _) (Nat.le_refl _) dX5_person_56
    · -- ne not
      have c_25 := hr_22.f c_25
      refine lv_iconst (v := nI (0)) hx hb dX5_person_28 (by decide +kernel) ?_
      exact xe_i hx hb hr rfl hlocks hW ⟨la1, hk.to (rg_in (by omega) (by omega)) (fun _ => Iff.rfl) (fun _ _ => Iff.rfl), by unfold t_person; rw [if_neg c_25], fun h => absurd h c_25⟩ (Nat.le_refl _) (Nat.le_refl _) dX5_person_29
  ·
    refine lv_aload_n hx hb dX5_person_7 rfl (lv_at hl 0 rfl) ?_
    refine m_get hx hb hts hin5 hown hW 5 (by decide) rfl (hts (.fieldLink RX5 66 "RestitutoryModel" "people" "I") (by decide +kernel)) (v := .int (nI (σ 5 0))) rfl dX5_person_8 ?_
    have b_8 := hB 5 0
    refine lv_bipush (v := nI (12)) hx hb dX5_person_11 (by decide +kernel) ?_
    refine lv_icmp_ge (tgt := 20) hx hb dX5_person_13 (by decide) (fun c_13 => ?_) (fun c_13 => ?_)
    · -- ge taken
      have c_13 := Int32.le_iff_toInt_le.mp c_13
      rw [nI_toInt (n := σ 5 0) (by omega)] at c_13
      rw [nI_toInt (n := 12) (by omega)] at c_13
      refine lv_iconst (v := nI (0)) hx hb dX5_person_20 (by decide +kernel) ?_
      exact J21 _ _ _ hW (tv.zero (by omega))
    · -- ge not
      have c_13 : ¬ ((nI (12)).toInt ≤ (nI (σ 5 0)).toInt) := fun h => c_13 (Int32.le_iff_toInt_le.mpr h)
      rw [nI_toInt (n := σ 5 0) (by omega)] at c_13
      rw [nI_toInt (n := 12) (by omega)] at c_13
      refine lv_iconst (v := nI (1)) hx hb dX5_person_16 (by decide +kernel) ?_
      refine lv_goto (tgt := 21) hx hb dX5_person_17 (by decide) ?_
      exact J21 _ _ _ hW (tv.one (by omega))
