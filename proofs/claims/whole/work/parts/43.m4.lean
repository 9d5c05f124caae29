set_option maxHeartbeats 4000000 in
set_option maxRecDepth 100000 in
theorem c_X5_persecutes (l : Launch) (D : xD) (sa : Nat → Nat) (xa : xA) (G0 : xG) (σ : Sg) (ρ : Nat → Nat) (la : Nat) (hg : Gd σ) (g a y : Nat) (hgg : g < 65536) (haa : a < 65536) (hyy : y < 65536) : mRd l yX5_persecutes wsX5_persecutes ({ frames := 12, cells := 0, slots := 0, locals := 300 } : Room) D sa xa G0 σ ρ la [.int (nI g), .int (nI a), .int (nI y)] (fun r => tv r (sPers σ g a y)) := by
  have hB := hg.1
  have h5 := hg.2.1.1
  have h7 := hg.2.1.2.1
  have h12 := hg.2.1.2.2.1
  have hy0 := hg.2.1.2.2.2.1
  have hy1 := hg.2.1.2.2.2.2
  have hm := hg.hm
  have hs8 := hg.hs8
  intro sz
  refine Met.ofW (cc := cX5_persecutes) (maxL := 6) (ret := (some .boolean)) (by decide +kernel) rfl ?_
  intro p e s m args below meth c s₁ B hml hv
  obtain ⟨rfl, hsz, hv2⟩ := hv
  subst hsz
  have hx := B.exec
  have hb := B.bytes
  have hr := B.returns
  have hts := atoms_spec (ws := wsX5_persecutes) B.pre
  have hown : s.vm.findClass RX5 = some m.cls := findClass_of_methodNamed B.named
  have hlocks := B.notSynchronized
  have hin5 : ∀ w ∈ wsX50, w ∈ wsX5_persecutes := by decide +kernel
  have hW := xW.start (s := s) ⟨rfl, hv2⟩
  clear hv2
  generalize xAw xa (mG G0 D xa σ ρ la) s.heap.size = A at hW ⊢
  have hl := lv_entry ([.ref (xa 20 0), .int (nI (g)), .int (nI (a)), .int (nI (y))]) (n := 6) (Nat.le_of_ble_eq_true rfl)
  rw [lg_entry_eq]
  generalize (lg_sl ([.ref (xa 20 0), .int (nI (g)), .int (nI (a)), .int (nI (y))]) ++ List.replicate (6 - (lg_sl ([.ref (xa 20 0), .int (nI (g)), .int (nI (a)), .int (nI (y))])).length) Slot.unset).toArray = ls at hl ⊢
  have hl : lv_has ls 6 [(0, .ref (xa 20 0)), (1, .int (nI (g))), (2, .int (nI (a))), (3, .int (nI (y)))] := hl
  refine lv_iconst (v := nI (0)) hx hb dX5_persecutes_0 (by decide +kernel) ?_
  refine lv_istore (lv' := [(4, .int (nI (0))), (0, .ref (xa 20 0)), (1, .int (nI (g))), (2, .int (nI (a))), (3, .int (nI (y)))]) hx hb dX5_persecutes_1 hl (by decide) rfl (fun ls hl => ?_)
  have hl : lv_has ls 6 [(0, .ref (xa 20 0)), (1, .int (nI (g))), (2, .int (nI (a))), (3, .int (nI (y))), (4, .int (nI (0)))] := lv_sub hl [1, 2, 3, 4, 0] rfl
  refine lv_iconst (v := nI (0)) hx hb dX5_persecutes_3 (by decide +kernel) ?_
  refine lv_istore (lv' := [(5, .int (nI (0))), (0, .ref (xa 20 0)), (1, .int (nI (g))), (2, .int (nI (a))), (3, .int (nI (y))), (4, .int (nI (0)))]) hx hb dX5_persecutes_4 hl (by decide) rfl (fun ls hl => ?_)
  have hl : lv_has ls 6 [(0, .ref (xa 20 0)), (1, .int (nI (g))), (2, .int (nI (a))), (3, .int (nI (y))), (4, .int (nI (0))), (5, .int (nI (0)))] := lv_sub hl [1, 2, 3, 4, 5, 0] rfl
  refine x_loop (X := Int32 × Nat) (I := fun n xv H locs ls => n = σ 7 0 - xv.2 ∧ xW D sa A s xa (mG G0 D xa σ ρ la) H locs ∧ lv_has ls 6 [(0, .ref (xa 20 0)), (1, .int (nI (g))), (2, .int (nI (a))), (3, .int (nI (y))), (4, .int (xv.1)), (5, .int (nI (xv.2)))] ∧ (tv xv.1 (∃ j, j < xv.2 ∧ σ 6 (4 * j) = g ∧ σ 6 (4 * j + 1) = a ∧ σ 6 (4 * j + 2) ≤ y ∧ y ≤ σ 6 (4 * j + 3))) ∧ (xv.2 ≤ σ 7 0)) (hd := 6) ?_ (n := _) (x := (nI 0, 0)) ⟨rfl, hW, hl, tv.zero (by rintro ⟨j, hj, -⟩; omega), by (try dsimp only); omega⟩
  rintro n ⟨r, k⟩ H locs ls ⟨hn, hW, hl, hr4, hk⟩ ih6
  try dsimp only at hn hW hl hr4 hk
  refine lv_iload hx hb dX5_persecutes_6 (lv_at hl 5 rfl) ?_
  refine lv_aload_n hx hb dX5_persecutes_8 rfl (lv_at hl 0 rfl) ?_
  refine m_get hx hb hts hin5 hown hW 7 (by decide) rfl (hts (.fieldLink RX5 94 "RestitutoryModel" "manyPersecutions" "I") (by decide +kernel)) (v := .int (nI (σ 7 0))) rfl dX5_persecutes_9 ?_
  have b_9 := hB 7 0
  refine lv_icmp_ge (tgt := 90) hx hb dX5_persecutes_12 (by decide) (fun c_12 => ?_) (fun c_12 => ?_)
  · -- ge taken
    have c_12 := Int32.le_iff_toInt_le.mp c_12
    rw [nI_toInt (n := k) (by omega)] at c_12
    rw [nI_toInt (n := σ 7 0) (by omega)] at c_12
    refine lv_iload hx hb dX5_persecutes_90 (lv_at hl 4 rfl) ?_
    exact xe_i hx hb hr hr4.nar hlocks hW ⟨rfl, hr4.to (by unfold sPers; rw [show k = σ 7 0 by omega])⟩ (Nat.le_refl _) (Nat.le_refl _) dX5_persecutes_92
  · -- ge not
    have c_12 : ¬ ((nI (σ 7 0)).toInt ≤ (nI (k)).toInt) := fun h => c_12 (Int32.le_iff_toInt_le.mpr h)
    rw [nI_toInt (n := k) (by omega)] at c_12
    rw [nI_toInt (n := σ 7 0) (by omega)] at c_12
    refine x_joinW (ls := ls) (D := D) (sa := sa) (A := A) (xa := xa) (G := mG G0 D xa σ ρ la) (P := ∃ j, j < k + 1 ∧ σ 6 (4 * j) = g ∧ σ 6 (4 * j + 1) = a ∧ σ 6 (4 * j + 2) ≤ y ∧ y ≤ σ 6 (4 * j + 3)) (mpc := 82) (rest := []) (fun H locs r_82 hW h_82 => ?_) (fun J82 => ?_)
    ·
      refine lv_istore (lv' := [(4, .int (r_82)), (0, .ref (xa 20 0)), (1, .int (nI (g))), (2, .int (nI (a))), (3, .int (nI (y))), (5, .int (nI (k)))]) hx hb dX5_persecutes_82 hl (by decide) rfl (fun ls hl => ?_)
      have hl : lv_has ls 6 [(0, .ref (xa 20 0)), (1, .int (nI (g))), (2, .int (nI (a))), (3, .int (nI (y))), (4, .int (r_82)), (5, .int (nI (k)))] := lv_sub hl [1, 2, 3, 4, 0, 5] rfl
      refine lv_iinc (v := nI (k + 1)) (lv' := [(5, .int (nI (k + 1))), (0, .ref (xa 20 0)), (1, .int (nI (g))), (2, .int (nI (a))), (3, .int (nI (y))), (4, .int (r_82))]) hx hb dX5_persecutes_84 hl (k := 5) rfl (x_inc k 1 rfl) (by decide) rfl (fun ls hl => ?_)
      have hl : lv_has ls 6 [(0, .ref (xa 20 0)), (1, .int (nI (g))), (2, .int (nI (a))), (3, .int (nI (y))), (4, .int (r_82)), (5, .int (nI (k + 1)))] := lv_sub hl [1, 2, 3, 4, 5, 0] rfl
      refine lv_goto (tgt := 6) hx hb dX5_persecutes_87 (by decide) ?_
      exact ih6 (σ 7 0 - (k + 1)) (r_82, k + 1) _ _ _ (by omega) ⟨rfl, hW, hl, h_82, by (try dsimp only); omega⟩
    ·
      refine lv_iload hx hb dX5_persecutes_15 (lv_at hl 4 rfl) ?_
      refine lv_if_ne (tgt := 77) hx hb dX5_persecutes_17 (by decide) (fun c_17 => ?_) (fun c_17 => ?_)
      · -- ne taken
        have c_17 := hr4.t c_17
        refine lv_iconst (v := nI (1)) hx hb dX5_persecutes_77 (by decide +kernel) ?_
        refine lv_goto (tgt := 82) hx hb dX5_persecutes_78 (by decide) ?_
        exact J82 _ _ _ hW (tv.one (by first | (obtain ⟨j, hj, he⟩ := c_17; exact ⟨j, by omega, he⟩) | (have h1 := c_74; rw [nI_toInt (by omega), nI_toInt (by omega), nI_toInt (by omega)] at h1; exact ⟨k, by omega, c_30, c_45, by omega, by omega⟩)))
      · -- ne not
        have c_17 := hr4.f c_17
        refine lv_aload_n hx hb dX5_persecutes_20 rfl (lv_at hl 0 rfl) ?_
        refine m_get hx hb hts hin5 hown hW 6 (by decide) rfl (hts (.fieldLink RX5 27 "RestitutoryModel" "persecutions" "[I") (by decide +kernel)) (v := .ref (xa 20 6)) rfl dX5_persecutes_21 ?_
        refine lv_iconst (v := nI (4)) hx hb dX5_persecutes_24 (by decide +kernel) ?_
        refine lv_iload hx hb dX5_persecutes_25 (lv_at hl 5 rfl) ?_
        refine lv_imul hx hb dX5_persecutes_27 ?_
        rw [pk_mul]
        refine m_ild hx hb hW 6 80 (by unfold mArr; decide) rfl rfl (4 * k) (by omega) (v := σ 6 (4 * k)) rfl dX5_persecutes_28 ?_
        have b_28 := hB 6 (4 * k)
        refine lv_iload_n hx hb dX5_persecutes_29 rfl (lv_at hl 1 rfl) ?_
        refine lv_icmp_ne (tgt := 81) hx hb dX5_persecutes_30 (by decide) (fun c_30 => ?_) (fun c_30 => ?_)
        · -- ne taken
          have c_30 : ¬ (σ 6 (4 * k) = g) := fun h_ => c_30 ((x_eqN (a := σ 6 (4 * k)) (b := g) (by omega) (by omega)).mpr h_)
          refine lv_iconst (v := nI (0)) hx hb dX5_persecutes_81 (by decide +kernel) ?_
          exact J82 _ _ _ hW (tv.zero (by rintro ⟨j, hj, he1, he2, he3, he4⟩; by_cases hjk : j = k; subst hjk; (first | exact c_30 he1 | exact c_45 he2 | (refine c_74 ?_; rw [nI_toInt (by omega), nI_toInt (by omega), nI_toInt (by omega)]; omega)); exact c_17 ⟨j, by omega, he1, he2, he3, he4⟩))
        · -- ne not
          have c_30 := (x_eqN (a := σ 6 (4 * k)) (b := g) (by omega) (by omega)).mp c_30
          refine lv_aload_n hx hb dX5_persecutes_33 rfl (lv_at hl 0 rfl) ?_
          refine m_get hx hb hts hin5 hown hW 6 (by decide) rfl (hts (.fieldLink RX5 27 "RestitutoryModel" "persecutions" "[I") (by decide +kernel)) (v := .ref (xa 20 6)) rfl dX5_persecutes_34 ?_
          refine lv_iconst (v := nI (4)) hx hb dX5_persecutes_37 (by decide +kernel) ?_
          refine lv_iload hx hb dX5_persecutes_38 (lv_at hl 5 rfl) ?_
          refine lv_imul hx hb dX5_persecutes_40 ?_
          rw [pk_mul]
          refine lv_iconst (v := nI (1)) hx hb dX5_persecutes_41 (by decide +kernel) ?_
          refine lv_iadd hx hb dX5_persecutes_42 ?_
          rw [nI_add]
          refine m_ild hx hb hW 6 80 (by unfold mArr; decide) rfl rfl ((4 * k) + 1) (by omega) (v := σ 6 ((4 * k) + 1)) rfl dX5_persecutes_43 ?_
          have b_43 := hB 6 ((4 * k) + 1)
          refine lv_iload_n hx hb dX5_persecutes_44 rfl (lv_at hl 2 rfl) ?_
          refine lv_icmp_ne (tgt := 81) hx hb dX5_persecutes_45 (by decide) (fun c_45 => ?_) (fun c_45 => ?_)
          · -- ne taken
            have c_45 : ¬ (σ 6 ((4 * k) + 1) = a) := fun h_ => c_45 ((x_eqN (a := σ 6 ((4 * k) + 1)) (b := a) (by omega) (by omega)).mpr h_)
            refine lv_iconst (v := nI (0)) hx hb dX5_persecutes_81 (by decide +kernel) ?_
            exact J82 _ _ _ hW (tv.zero (by rintro ⟨j, hj, he1, he2, he3, he4⟩; by_cases hjk : j = k; subst hjk; (first | exact c_30 he1 | exact c_45 he2 | (refine c_74 ?_; rw [nI_toInt (by omega), nI_toInt (by omega), nI_toInt (by omega)]; omega)); exact c_17 ⟨j, by omega, he1, he2, he3, he4⟩))
          · -- ne not
            have c_45 := (x_eqN (a := σ 6 ((4 * k) + 1)) (b := a) (by omega) (by omega)).mp c_45
            refine lv_iload_n hx hb dX5_persecutes_48 rfl (lv_at hl 3 rfl) ?_
            refine lv_aload_n hx hb dX5_persecutes_49 rfl (lv_at hl 0 rfl) ?_
            refine m_get hx hb hts hin5 hown hW 6 (by decide) rfl (hts (.fieldLink RX5 27 "RestitutoryModel" "persecutions" "[I") (by decide +kernel)) (v := .ref (xa 20 6)) rfl dX5_persecutes_50 ?_
            refine lv_iconst (v := nI (4)) hx hb dX5_persecutes_53 (by decide +kernel) ?_
            refine lv_iload hx hb dX5_persecutes_54 (lv_at hl 5 rfl) ?_
            refine lv_imul hx hb dX5_persecutes_56 ?_
            rw [pk_mul]
            refine lv_iconst (v := nI (2)) hx hb dX5_persecutes_57 (by decide +kernel) ?_
            refine lv_iadd hx hb dX5_persecutes_58 ?_
            rw [nI_add]
            refine m_ild hx hb hW 6 80 (by unfold mArr; decide) rfl rfl ((4 * k) + 2) (by omega) (v := σ 6 ((4 * k) + 2)) rfl dX5_persecutes_59 ?_
            have b_59 := hB 6 ((4 * k) + 2)
            refine lv_aload_n hx hb dX5_persecutes_60 rfl (lv_at hl 0 rfl) ?_
            refine m_get hx hb hts hin5 hown hW 6 (by decide) rfl (hts (.fieldLink RX5 27 "RestitutoryModel" "persecutions" "[I") (by decide +kernel)) (v := .ref (xa 20 6)) rfl dX5_persecutes_61 ?_
            refine lv_iconst (v := nI (4)) hx hb dX5_persecutes_64 (by decide +kernel) ?_
            refine lv_iload hx hb dX5_persecutes_65 (lv_at hl 5 rfl) ?_
            refine lv_imul hx hb dX5_persecutes_67 ?_
            rw [pk_mul]
            refine lv_iconst (v := nI (3)) hx hb dX5_persecutes_68 (by decide +kernel) ?_
            refine lv_iadd hx hb dX5_persecutes_69 ?_
            rw [nI_add]
            refine m_ild hx hb hW 6 80 (by unfold mArr; decide) rfl rfl ((4 * k) + 3) (by omega) (v := σ 6 ((4 * k) + 3)) rfl dX5_persecutes_70 ?_
            have b_70 := hB 6 ((4 * k) + 3)
            refine xs_i (As := [.int (nI (y)), .int (nI (σ 6 ((4 * k) + 2))), .int (nI (σ 6 ((4 * k) + 3)))]) (rest := []) ⟨hx, hb, hml, hown, hts⟩ (c_X5_in l D sa xa (mG G0 D xa σ ρ la) (nI (y)) (nI (σ 6 ((4 * k) + 2))) (nI (σ 6 ((4 * k) + 3)))) (va_cwS 3 hts gX5_persecutes_X5_in rfl rfl rfl (by decide +kernel) ⟨Nat.le_of_ble_eq_true rfl, Nat.le_of_ble_eq_true rfl⟩) hW rfl rfl hl.1 (Nat.le_of_ble_eq_true rfl) dX5_persecutes_71 ⟨Nat.le_of_ble_eq_true rfl, Nat.le_of_ble_eq_true rfl⟩ (fun r_71 xa1 G1 H locs hp hW => ?_)
            obtain ⟨hu, hr_71⟩ := hp
            cases hu
            refine lv_if_eq (tgt := 81) hx hb dX5_persecutes_74 (by decide) (fun c_74 => ?_) (fun c_74 => ?_)
            · -- eq taken
              have c_74 := hr_71.f c_74
              refine lv_iconst (v := nI (0)) hx hb dX5_persecutes_81 (by decide +kernel) ?_
              exact J82 _ _ _ hW (tv.zero (by rintro ⟨j, hj, he1, he2, he3, he4⟩; by_cases hjk : j = k; subst hjk; (first | exact c_30 he1 | exact c_45 he2 | (refine c_74 ?_; rw [nI_toInt (by omega), nI_toInt (by omega), nI_toInt (by omega)]; omega)); exact c_17 ⟨j, by omega, he1, he2, he3, he4⟩))
            · -- eq not
              have c_74 := hr_71.t c_74
              refine lv_iconst (v := nI (1)) hx hb dX5_persecutes_77 (by decide +kernel) ?_
              refine lv_goto (tgt := 82) hx hb dX5_persecutes_78 (by decide) ?_
              exact J82 _ _ _ hW (tv.one (by first | (obtain ⟨j, hj, he⟩ := c_17; exact ⟨j, by omega, he⟩) | (have h1 := c_74; rw [nI_toInt (by omega), nI_toInt (by omega), nI_toInt (by omega)] at h1; exact ⟨k, by omega, c_30, c_45, by omega, by omega⟩)))

set_option maxHeartbeats 4000000 in
set_option maxRecDepth 100000 in
theorem c_X5_isPersecuted (l : Launch) (D : xD) (sa : Nat → Nat) (xa : xA) (G0 : xG) (σ : Sg) (ρ : Nat → Nat) (la : Nat) (hg : Gd σ) (x a y : Int32) : xCi l yX5_isPersecuted wsX5_isPersecuted ({ frames := 18, cells := 0, slots := 0, locals := 600 } : Room) D sa xa (mG G0 D xa σ ρ la) [.ref (xa 20 0), .int x, .int a, .int y] (fun r u => ∃ k, gk (pP σ x ∧ pL a) (rg y 1900 2100) True k ∧ u = (xa, mG G0 D xa (σ) ρ k) ∧ (k = 0 → tv r (sPers σ (σ 1 (xn x)) (xn a) (xn y)))) 0 0 := by
  have hB := hg.1
  have h5 := hg.2.1.1
  have h7 := hg.2.1.2.1
  have h12 := hg.2.1.2.2.1
  have hy0 := hg.2.1.2.2.2.1
  have hy1 := hg.2.1.2.2.2.2
  have hm := hg.hm
  have hs8 := hg.hs8
  intro sz
  refine Met.ofW (cc := cX5_isPersecuted) (maxL := 4) (ret := (some .boolean)) (by decide +kernel) rfl ?_
  intro p e s m args below meth c s₁ B hml hv
  obtain ⟨rfl, hsz, hv2⟩ := hv
  subst hsz
  have hx := B.exec
  have hb := B.bytes
  have hr := B.returns
  have hts := atoms_spec (ws := wsX5_isPersecuted) B.pre
  have hown : s.vm.findClass RX5 = some m.cls := findClass_of_methodNamed B.named
  have hlocks := B.notSynchronized
  have hin5 : ∀ w ∈ wsX50, w ∈ wsX5_isPersecuted := by decide +kernel
  have hW := xW.start (s := s) ⟨rfl, hv2⟩
  clear hv2
  generalize xAw xa (mG G0 D xa σ ρ la) s.heap.size = A at hW ⊢
  have hl := lv_entry ([.ref (xa 20 0), .int (x), .int (a), .int (y)]) (n := 4) (Nat.le_of_ble_eq_true rfl)
  rw [lg_entry_eq]
  generalize (lg_sl ([.ref (xa 20 0), .int (x), .int (a), .int (y)]) ++ List.replicate (4 - (lg_sl ([.ref (xa 20 0), .int (x), .int (a), .int (y)])).length) Slot.unset).toArray = ls at hl ⊢
  have hl : lv_has ls 4 [(0, .ref (xa 20 0)), (1, .int (x)), (2, .int (a)), (3, .int (y))] := hl
  refine lv_aload_n hx hb dX5_isPersecuted_0 rfl (lv_at hl 0 rfl) ?_
  refine x_joinW (ls := ls) (D := D) (sa := sa) (A := A) (xa := xa) (G := mG G0 D xa σ ρ la) (P := pP σ x ∧ pL a) (mpc := 21) (rest := [.ref (xa 20 0)]) (fun H locs r_21 hW h_21 => ?_) (fun J21 => ?_)
  ·
    refine lv_iload_n hx hb dX5_isPersecuted_21 rfl (lv_at hl 3 rfl) ?_
    refine lv_sipush (v := nI (1900)) hx hb dX5_isPersecuted_22 (by decide +kernel) ?_
    refine lv_sipush (v := nI (2100)) hx hb dX5_isPersecuted_25 (by decide +kernel) ?_
    refine xs_i (As := [.int (y), .int (nI (1900)), .int (nI (2100))]) (rest := [.int (r_21), .ref (xa 20 0)]) ⟨hx, hb, hml, hown, hts⟩ (c_X5_in l D sa xa (mG G0 D xa σ ρ la) (y) (nI (1900)) (nI (2100))) (va_cwS 3 hts gX5_isPersecuted_X5_in rfl rfl rfl (by decide +kernel) ⟨Nat.le_of_ble_eq_true rfl, Nat.le_of_ble_eq_true rfl⟩) hW rfl rfl hl.1 (Nat.le_of_ble_eq_true rfl) dX5_isPersecuted_28 ⟨Nat.le_of_ble_eq_true rfl, Nat.le_of_ble_eq_true rfl⟩ (fun r_28 xa1 G1 H locs hp hW => ?_)
    obtain ⟨hu, hr_28⟩ := hp
    cases hu
    refine lv_iconst (v := nI (1)) hx hb dX5_isPersecuted_31 (by decide +kernel) ?_
    refine xv_i (As := [.int (r_21), .int (r_28), .int (nI (1))]) (rest := []) ⟨hx, hb, hml, hown, hts⟩ (c_X5_goes l D sa xa G0 σ ρ la hB h_21 hr_28 (tv.one trivial)) (cwV 3 hts gX5_isPersecuted_X5_goes rfl rfl rfl (by decide +kernel) ⟨Nat.le_of_ble_eq_true rfl, Nat.le_of_ble_eq_true rfl⟩) hW (mG_obj _ _ _ _ _ _) rfl rfl rfl rfl hl.1 (Nat.le_of_ble_eq_true rfl) dX5_isPersecuted_32 ⟨Nat.le_of_ble_eq_true rfl, Nat.le_of_ble_eq_true rfl⟩ (fun r_32 xa1 G1 H locs hp hW => ?_)
    obtain ⟨la1, hu, hr_32, hk⟩ := hp
    cases hu
    refine lv_if_eq (tgt := 57) hx hb dX5_isPersecuted_35 (by decide) (fun c_35 => ?_) (fun c_35 => ?_)
    · -- eq taken
      have c_35 := hr_32.f c_35
      refine lv_iconst (v := nI (0)) hx hb dX5_isPersecuted_57 (by decide +kernel) ?_
      exact xe_i hx hb hr rfl hlocks hW ⟨la1, hk.to Iff.rfl (fun _ => rg_in (by omega) (by omega)) (fun _ _ => Iff.rfl), rfl, fun h => absurd h c_35⟩ (Nat.le_refl _) (Nat.le_refl _) dX5_isPersecuted_58
    · -- eq not
      have c_35 := hr_32.t c_35
      subst c_35
      obtain ⟨hz1, hz2, hz3⟩ := hk.zero
      have hu_i := hz1.1
      unfold pP at hu_i
      obtain ⟨i, hi, rfl⟩ := x_nat (n := σ 5 0) (x := x) (by omega) (by omega)
      have hu_ai := hz1.2
      unfold pL at hu_ai
      obtain ⟨ai, hai, rfl⟩ := x_nat (n := 5) (x := a) (by omega) (by omega)
      have hz2 := (rg_in (by omega) (by omega)).mp hz2
      have hu_yi := hz2
      unfold rg at hu_yi
      obtain ⟨yi, hyi, rfl⟩ := x_nat (n := 2101) (x := y) (by omega) (by omega)
      refine lv_aload_n hx hb dX5_isPersecuted_38 rfl (lv_at hl 0 rfl) ?_
      refine lv_aload_n hx hb dX5_isPersecuted_39 rfl (lv_at hl 0 rfl) ?_
      refine m_get hx hb hts hin5 hown hW 1 (by decide) rfl (hts (.fieldLink RX5 13 "RestitutoryModel" "groups" "[I") (by decide +kernel)) (v := .ref (xa 20 1)) rfl dX5_isPersecuted_40 ?_
      refine lv_iload_n hx hb dX5_isPersecuted_43 rfl (lv_at hl 1 rfl) ?_
      refine m_ild hx hb hW 1 12 (by unfold mArr; decide) rfl rfl (i) (by omega) (v := σ 1 i) rfl dX5_isPersecuted_44 ?_
      have b_44 := hB 1 (i)
      refine lv_iload_n hx hb dX5_isPersecuted_45 rfl (lv_at hl 2 rfl) ?_
      refine lv_iload_n hx hb dX5_isPersecuted_46 rfl (lv_at hl 3 rfl) ?_
      refine xv_i (As := [.int (nI (σ 1 i)), .int (nI (ai)), .int (nI (yi))]) (rest := []) ⟨hx, hb, hml, hown, hts⟩ (c_X5_persecutes l D sa xa G0 σ ρ 0 hg (σ 1 i) ai yi (by omega) (by omega) (by omega)) (cwV 3 hts gX5_isPersecuted_X5_persecutes rfl rfl rfl (by decide +kernel) ⟨Nat.le_of_ble_eq_true rfl, Nat.le_of_ble_eq_true rfl⟩) hW (mG_obj _ _ _ _ _ _) rfl rfl rfl rfl hl.1 (Nat.le_of_ble_eq_true rfl) dX5_isPersecuted_47 ⟨Nat.le_of_ble_eq_true rfl, Nat.le_of_ble_eq_true rfl⟩ (fun r_47 xa1 G1 H locs hp hW => ?_)
      obtain ⟨hu, hr_47⟩ := hp
      cases hu
      refine lv_if_eq (tgt := 57) hx hb dX5_isPersecuted_50 (by decide) (fun c_50 => ?_) (fun c_50 => ?_)
      · -- eq taken
        have c_50 := hr_47.f c_50
        refine lv_iconst (v := nI (0)) hx hb dX5_isPersecuted_57 (by decide +kernel) ?_
        exact xe_i hx hb hr rfl hlocks hW ⟨0, hk.to Iff.rfl (fun _ => rg_in (by omega) (by omega)) (fun _ _ => Iff.rfl), rfl, fun _ => tv.zero (by rw [xn_nI (by omega), xn_nI (by omega), xn_nI (by omega)]; exact c_50)⟩ (Nat.le_refl _) (Nat.le_refl _) dX5_isPersecuted_58
      · -- eq not
        have c_50 := hr_47.t c_50
        refine lv_iconst (v := nI (1)) hx hb dX5_isPersecuted_53 (by decide +kernel) ?_
        refine lv_goto (tgt := 58) hx hb dX5_isPersecuted_54 (by decide) ?_
        exact xe_i hx hb hr rfl hlocks hW ⟨0, hk.to Iff.rfl (fun _ => rg_in (by omega) (by omega)) (fun _ _ => Iff.rfl), rfl, fun _ => tv.one (by rw [xn_nI (by omega), xn_nI (by omega), xn_nI (by omega)]; exact c_50)⟩ (Nat.le_refl _) (Nat.le_refl _) dX5_isPersecuted_58
  ·
    refine lv_aload_n hx hb dX5_isPersecuted_1 rfl (lv_at hl 0 rfl) ?_
    refine lv_iload_n hx hb dX5_isPersecuted_2 rfl (lv_at hl 1 rfl) ?_
    refine xv_i (As := [.int (x)]) (rest := [.ref (xa 20 0)]) ⟨hx, hb, hml, hown, hts⟩ (c_X5_isPerson l D sa xa G0 σ ρ la hB x) (cwV 1 hts gX5_isPersecuted_X5_isPerson rfl rfl rfl (by decide +kernel) ⟨Nat.le_of_ble_eq_true rfl, Nat.le_of_ble_eq_true rfl⟩) hW (mG_obj _ _ _ _ _ _) rfl rfl rfl rfl hl.1 (Nat.le_of_ble_eq_true rfl) dX5_isPersecuted_3 ⟨Nat.le_of_ble_eq_true rfl, Nat.le_of_ble_eq_true rfl⟩ (fun r_3 xa1 G1 H locs hp hW => ?_)
    obtain ⟨hu, hr_3⟩ := hp
    cases hu
    refine lv_if_eq (tgt := 20) hx hb dX5_isPersecuted_6 (by decide) (fun c_6 => ?_) (fun c_6 => ?_)
    · -- eq taken
      have c_6 := hr_3.f c_6
      refine lv_iconst (v := nI (0)) hx hb dX5_isPersecuted_20 (by decide +kernel) ?_
      exact J21 _ _ _ hW (tv.zero (by first | exact fun h => c_6 h.1 | exact fun h => c_13 h.2))
    · -- eq not
      have c_6 := hr_3.t c_6
      refine lv_iload_n hx hb dX5_isPersecuted_9 rfl (lv_at hl 2 rfl) ?_
      refine xs_i (As := [.int (a)]) (rest := [.ref (xa 20 0)]) ⟨hx, hb, hml, hown, hts⟩ (c_X5_isLand l D sa xa (mG G0 D xa σ ρ la) (a)) (va_cwS 1 hts gX5_isPersecuted_X5_isLand rfl rfl rfl (by decide +kernel) ⟨Nat.le_of_ble_eq_true rfl, Nat.le_of_ble_eq_true rfl⟩) hW rfl rfl hl.1 (Nat.le_of_ble_eq_true rfl) dX5_isPersecuted_10 ⟨Nat.le_of_ble_eq_true rfl, Nat.le_of_ble_eq_true rfl⟩ (fun r_10 xa1 G1 H locs hp hW => ?_)
      obtain ⟨hu, hr_10⟩ := hp
      cases hu
      refine lv_if_eq (tgt := 20) hx hb dX5_isPersecuted_13 (by decide) (fun c_13 => ?_) (fun c_13 => ?_)
      · -- eq taken
        have c_13 := hr_10.f c_13
        refine lv_iconst (v := nI (0)) hx hb dX5_isPersecuted_20 (by decide +kernel) ?_
        exact J21 _ _ _ hW (tv.zero (by first | exact fun h => c_6 h.1 | exact fun h => c_13 h.2))
      · -- eq not
        have c_13 := hr_10.t c_13
        refine lv_iconst (v := nI (1)) hx hb dX5_isPersecuted_16 (by decide +kernel) ?_
        refine lv_goto (tgt := 21) hx hb dX5_isPersecuted_17 (by decide) ?_
        exact J21 _ _ _ hW (tv.one (⟨c_6, c_13⟩))

set_option maxHeartbeats 4000000 in
set_option maxRecDepth 100000 in
theorem c_X5_rebut (l : Launch) (D : xD) (sa : Nat → Nat) (xa : xA) (G0 : xG) (σ : Sg) (ρ : Nat → Nat) (la : Nat) (hg : Gd σ) (t x : Int32) (bn : Nat) (hbn : bn < 2) : xCi l yX5_rebut wsX5_rebut ({ frames := 18, cells := 0, slots := 0, locals := 600 } : Room) D sa xa (mG G0 D xa σ ρ la) [.ref (xa 20 0), .int t, .int x, .int (nI bn)] (fun r u => ∃ k, gk (pS σ t x) (σ 14 (8 * xn t + xn x) = 0) True k ∧ u = (xa, mG G0 D xa (t_rebut σ t x bn k) ρ k) ∧ (k = 0 → tv r (σ 17 (8 * xn t + xn x) = 1))) 0 0 := by
  have hB := hg.1
  have h5 := hg.2.1.1
  have h7 := hg.2.1.2.1
  have h12 := hg.2.1.2.2.1
  have hy0 := hg.2.1.2.2.2.1
  have hy1 := hg.2.1.2.2.2.2
  have hm := hg.hm
  have hs8 := hg.hs8
  intro sz
  refine Met.ofW (cc := cX5_rebut) (maxL := 7) (ret := (some .boolean)) (by decide +kernel) rfl ?_
  intro p e s m args below meth c s₁ B hml hv
  obtain ⟨rfl, hsz, hv2⟩ := hv
  subst hsz
  have hx := B.exec
  have hb := B.bytes
  have hr := B.returns
  have hts := atoms_spec (ws := wsX5_rebut) B.pre
  have hown : s.vm.findClass RX5 = some m.cls := findClass_of_methodNamed B.named
  have hlocks := B.notSynchronized
  have hin5 : ∀ w ∈ wsX50, w ∈ wsX5_rebut := by decide +kernel
  have hW := xW.start (s := s) ⟨rfl, hv2⟩
  clear hv2
  generalize xAw xa (mG G0 D xa σ ρ la) s.heap.size = A at hW ⊢
  have hl := lv_entry ([.ref (xa 20 0), .int (t), .int (x), .int (nI (bn))]) (n := 7) (Nat.le_of_ble_eq_true rfl)
  rw [lg_entry_eq]
  generalize (lg_sl ([.ref (xa 20 0), .int (t), .int (x), .int (nI (bn))]) ++ List.replicate (7 - (lg_sl ([.ref (xa 20 0), .int (t), .int (x), .int (nI (bn))])).length) Slot.unset).toArray = ls at hl ⊢
  have hl : lv_has ls 7 [(0, .ref (xa 20 0)), (1, .int (t)), (2, .int (x)), (3, .int (nI (bn)))] := hl
  refine lv_aload_n hx hb dX5_rebut_0 rfl (lv_at hl 0 rfl) ?_
  refine lv_iload_n hx hb dX5_rebut_1 rfl (lv_at hl 1 rfl) ?_
  refine lv_iload_n hx hb dX5_rebut_2 rfl (lv_at hl 2 rfl) ?_
  refine xv_i (As := [.int (t), .int (x)]) (rest := []) ⟨hx, hb, hml, hown, hts⟩ (c_X5_isStation l D sa xa G0 σ ρ la hB h12 t x) (cwV 2 hts gX5_rebut_X5_isStation rfl rfl rfl (by decide +kernel) ⟨Nat.le_of_ble_eq_true rfl, Nat.le_of_ble_eq_true rfl⟩) hW (mG_obj _ _ _ _ _ _) rfl rfl rfl rfl hl.1 (Nat.le_of_ble_eq_true rfl) dX5_rebut_3 ⟨Nat.le_of_ble_eq_true rfl, Nat.le_of_ble_eq_true rfl⟩ (fun r_3 xa1 G1 H locs hp hW => ?_)
  obtain ⟨hu, hr_3⟩ := hp
  cases hu
  refine lv_istore (lv' := [(4, .int (r_3)), (0, .ref (xa 20 0)), (1, .int (t)), (2, .int (x)), (3, .int (nI (bn)))]) hx hb dX5_rebut_6 hl (by decide) rfl (fun ls hl => ?_)
  have hl : lv_has ls 7 [(0, .ref (xa 20 0)), (1, .int (t)), (2, .int (x)), (3, .int (nI (bn))), (4, .int (r_3))] := lv_sub hl [1, 2, 3, 4, 0] rfl
  refine lv_iload hx hb dX5_rebut_8 (lv_at hl 4 rfl) ?_
  refine lv_if_eq (tgt := 22) hx hb dX5_rebut_10 (by decide) (fun c_10 => ?_) (fun c_10 => ?_)
  · -- eq taken
    have c_10 := hr_3.f c_10
    refine lv_iconst (v := nI (0)) hx hb dX5_rebut_22 (by decide +kernel) ?_
    refine lv_istore (lv' := [(5, .int (nI (0))), (0, .ref (xa 20 0)), (1, .int (t)), (2, .int (x)), (3, .int (nI (bn))), (4, .int (r_3))]) hx hb dX5_rebut_23 hl (by decide) rfl (fun ls hl => ?_)
    have hl : lv_has ls 7 [(0, .ref (xa 20 0)), (1, .int (t)), (2, .int (x)), (3, .int (nI (bn))), (4, .int (r_3)), (5, .int (nI (0)))] := lv_sub hl [1, 2, 3, 4, 5, 0] rfl
    refine lv_aload_n hx hb dX5_rebut_25 rfl (lv_at hl 0 rfl) ?_
    refine lv_iload hx hb dX5_rebut_26 (lv_at hl 4 rfl) ?_
    refine x_joinW (ls := ls) (D := D) (sa := sa) (A := A) (xa := xa) (G := mG G0 D xa σ ρ la) (P := σ 14 (0) = 0) (mpc := 43) (rest := [.int (r_3), .ref (xa 20 0)]) (fun H locs r_43 hW h_43 => ?_) (fun J43 => ?_)
    ·
      refine lv_iconst (v := nI (1)) hx hb dX5_rebut_43 (by decide +kernel) ?_
      refine xv_i (As := [.int (r_3), .int (r_43), .int (nI (1))]) (rest := []) ⟨hx, hb, hml, hown, hts⟩ (c_X5_goes l D sa xa G0 σ ρ la hB hr_3 h_43 (tv.one trivial)) (cwV 3 hts gX5_rebut_X5_goes rfl rfl rfl (by decide +kernel) ⟨Nat.le_of_ble_eq_true rfl, Nat.le_of_ble_eq_true rfl⟩) hW (mG_obj _ _ _ _ _ _) rfl rfl rfl rfl hl.1 (Nat.le_of_ble_eq_true rfl) dX5_rebut_44 ⟨Nat.le_of_ble_eq_true rfl, Nat.le_of_ble_eq_true rfl⟩ (fun r_44 xa1 G1 H locs hp hW => ?_)
      obtain ⟨la1, hu, hr_44, hk⟩ := hp
      cases hu
      refine lv_if_ne (tgt := 52) hx hb dX5_rebut_47 (by decide) (fun c_47 => ?_) (fun c_47 => ?_)
      · -- ne taken
        have c_47 := hr_44.t c_47
        subst c_47
        exact absurd hk.zero.1 c_10
      · -- ne not
        have c_47 := hr_44.f c_47
        refine lv_iconst (v := nI (0)) hx hb dX5_rebut_50 (by decide +kernel) ?_
        exact xe_i hx hb hr rfl hlocks hW ⟨la1, hk.to Iff.rfl (fun h => absurd h c_10) (fun _ _ => Iff.rfl), by unfold t_rebut; rw [if_neg c_47], fun h => absurd h c_47⟩ (Nat.le_refl _) (Nat.le_refl _) dX5_rebut_51
    ·
      refine lv_aload_n hx hb dX5_rebut_28 rfl (lv_at hl 0 rfl) ?_
      refine m_get hx hb hts hin5 hown hW 14 (by decide) rfl (hts (.fieldLink RX5 45 "RestitutoryModel" "kinds" "[I") (by decide +kernel)) (v := .ref (xa 20 14)) rfl dX5_rebut_29 ?_
      refine lv_iload hx hb dX5_rebut_32 (lv_at hl 5 rfl) ?_
      refine m_ild hx hb hW 14 80 (by unfold mArr; decide) rfl rfl (0) (by omega) (v := σ 14 0) rfl dX5_rebut_34 ?_
      have b_34 := hB 14 (0)
      refine lv_if_ne (tgt := 42) hx hb dX5_rebut_35 (by decide) (fun c_35 => ?_) (fun c_35 => ?_)
      · -- ne taken
        have c_35 : ¬ (σ 14 0 = 0) := fun h_ => c_35 ((x_eqZ (a := σ 14 0) (by omega)).mpr h_)
        refine lv_iconst (v := nI (0)) hx hb dX5_rebut_42 (by decide +kernel) ?_
        exact J43 _ _ _ hW (tv.zero (c_35))
      · -- ne not
        have c_35 := (x_eqZ (a := σ 14 0) (by omega)).mp c_35
        refine lv_iconst (v := nI (1)) hx hb dX5_rebut_38 (by decide +kernel) ?_
        refine lv_goto (tgt := 43) hx hb dX5_rebut_39 (by decide) ?_
        exact J43 _ _ _ hW (tv.one (c_35))
  · -- eq not
    have c_10 := hr_3.t c_10
    have hps := c_10
    unfold pS at hps
    have hu_ti := hps.1
    unfold pT at hu_ti
    obtain ⟨ti, hti, rfl⟩ := x_nat (n := σ 12 0) (x := t) (by omega) (by omega)
    have hps2 := hps.2
    rw [xn_nI (by omega)] at hps2
    have h8i := hs8 ti
    obtain ⟨xi, hxi, rfl⟩ := x_nat (n := σ 11 ti) (x := x) (by omega) (by omega)
    refine lv_bipush (v := nI (8)) hx hb dX5_rebut_13 (by decide +kernel) ?_
    refine lv_iload_n hx hb dX5_rebut_15 rfl (lv_at hl 1 rfl) ?_
    refine lv_imul hx hb dX5_rebut_16 ?_
    rw [pk_mul]
    refine lv_iload_n hx hb dX5_rebut_17 rfl (lv_at hl 2 rfl) ?_
    refine lv_iadd hx hb dX5_rebut_18 ?_
    rw [nI_add]
    refine lv_goto (tgt := 23) hx hb dX5_rebut_19 (by decide) ?_
    refine lv_istore (lv' := [(5, .int (nI ((8 * ti) + xi))), (0, .ref (xa 20 0)), (1, .int (nI (ti))), (2, .int (nI (xi))), (3, .int (nI (bn))), (4, .int (r_3))]) hx hb dX5_rebut_23 hl (by decide) rfl (fun ls hl => ?_)
    have hl : lv_has ls 7 [(0, .ref (xa 20 0)), (1, .int (nI (ti))), (2, .int (nI (xi))), (3, .int (nI (bn))), (4, .int (r_3)), (5, .int (nI ((8 * ti) + xi)))] := lv_sub hl [1, 2, 3, 4, 5, 0] rfl
    refine lv_aload_n hx hb dX5_rebut_25 rfl (lv_at hl 0 rfl) ?_
    refine lv_iload hx hb dX5_rebut_26 (lv_at hl 4 rfl) ?_
    refine x_joinW (ls := ls) (D := D) (sa := sa) (A := A) (xa := xa) (G := mG G0 D xa σ ρ la) (P := σ 14 ((8 * ti) + xi) = 0) (mpc := 43) (rest := [.int (r_3), .ref (xa 20 0)]) (fun H locs r_43 hW h_43 => ?_) (fun J43 => ?_)
    ·
      refine lv_iconst (v := nI (1)) hx hb dX5_rebut_43 (by decide +kernel) ?_
      refine xv_i (As := [.int (r_3), .int (r_43), .int (nI (1))]) (rest := []) ⟨hx, hb, hml, hown, hts⟩ (c_X5_goes l D sa xa G0 σ ρ la hB hr_3 h_43 (tv.one trivial)) (cwV 3 hts gX5_rebut_X5_goes rfl rfl rfl (by decide +kernel) ⟨Nat.le_of_ble_eq_true rfl, Nat.le_of_ble_eq_true rfl⟩) hW (mG_obj _ _ _ _ _ _) rfl rfl rfl rfl hl.1 (Nat.le_of_ble_eq_true rfl) dX5_rebut_44 ⟨Nat.le_of_ble_eq_true rfl, Nat.le_of_ble_eq_true rfl⟩ (fun r_44 xa1 G1 H locs hp hW => ?_)
      obtain ⟨la1, hu, hr_44, hk⟩ := hp
      cases hu
      refine lv_if_ne (tgt := 52) hx hb dX5_rebut_47 (by decide) (fun c_47 => ?_) (fun c_47 => ?_)
      · -- ne taken
        have c_47 := hr_44.t c_47
        subst c_47
        refine lv_aload_n hx hb dX5_rebut_52 rfl (lv_at hl 0 rfl) ?_
        refine m_get hx hb hts hin5 hown hW 17 (by decide) rfl (hts (.fieldLink RX5 54 "RestitutoryModel" "rebutted" "[Z") (by decide +kernel)) (v := .ref (xa 20 17)) rfl dX5_rebut_53 ?_
        refine lv_iload hx hb dX5_rebut_56 (lv_at hl 5 rfl) ?_
        refine m_zld hx hb hW 17 80 (by unfold mArr; decide) rfl rfl ((8 * ti) + xi) (by omega) (v := σ 17 ((8 * ti) + xi)) rfl dX5_rebut_58 ?_
        have b_58 := hB 17 ((8 * ti) + xi)
        refine lv_istore (lv' := [(6, .int (nI (σ 17 ((8 * ti) + xi)))), (0, .ref (xa 20 0)), (1, .int (nI (ti))), (2, .int (nI (xi))), (3, .int (nI (bn))), (4, .int (r_3)), (5, .int (nI ((8 * ti) + xi)))]) hx hb dX5_rebut_59 hl (by decide) rfl (fun ls hl => ?_)
        have hl : lv_has ls 7 [(0, .ref (xa 20 0)), (1, .int (nI (ti))), (2, .int (nI (xi))), (3, .int (nI (bn))), (4, .int (r_3)), (5, .int (nI ((8 * ti) + xi))), (6, .int (nI (σ 17 ((8 * ti) + xi))))] := lv_sub hl [1, 2, 3, 4, 5, 6, 0] rfl
        refine lv_aload_n hx hb dX5_rebut_61 rfl (lv_at hl 0 rfl) ?_
        refine m_get hx hb hts hin5 hown hW 17 (by decide) rfl (hts (.fieldLink RX5 54 "RestitutoryModel" "rebutted" "[Z") (by decide +kernel)) (v := .ref (xa 20 17)) rfl dX5_rebut_62 ?_
        refine lv_iload hx hb dX5_rebut_65 (lv_at hl 5 rfl) ?_
        refine lv_iload_n hx hb dX5_rebut_67 rfl (lv_at hl 3 rfl) ?_
        refine m_zst hx hb hW 17 80 (by unfold mArr; decide) rfl rfl ((8 * ti) + xi) (by omega) (v := bn) (by omega) dX5_rebut_68 (fun H locs hW => ?_)
        refine lv_iload hx hb dX5_rebut_69 (lv_at hl 6 rfl) ?_
        have hlt : σ 17 ((8 * ti) + xi) < 2 := ((hg.2.2.2.2.1 ti hti).2.2 xi (by omega)).2.2.2.2.2.1
        exact xe_i hx hb hr (tv.ofNat hlt).nar hlocks hW ⟨0, hk.to Iff.rfl (fun _ => by rw [xn_nI (by omega), xn_nI (by omega)]) (fun _ _ => Iff.rfl), by unfold t_rebut; simp only [if_true, xn_nI (n := ti) (by omega), xn_nI (n := xi) (by omega)], fun _ => by rw [xn_nI (by omega), xn_nI (by omega)]; exact tv.ofNat hlt⟩ (Nat.le_refl _) (Nat.le_refl _) dX5_rebut_71
      · -- ne not
        have c_47 := hr_44.f c_47
        refine lv_iconst (v := nI (0)) hx hb dX5_rebut_50 (by decide +kernel) ?_
        exact xe_i hx hb hr rfl hlocks hW ⟨la1, hk.to Iff.rfl (fun _ => by rw [xn_nI (by omega), xn_nI (by omega)]) (fun _ _ => Iff.rfl), by unfold t_rebut; rw [if_neg c_47], fun h => absurd h c_47⟩ (Nat.le_refl _) (Nat.le_refl _) dX5_rebut_51
    ·
      refine lv_aload_n hx hb dX5_rebut_28 rfl (lv_at hl 0 rfl) ?_
      refine m_get hx hb hts hin5 hown hW 14 (by decide) rfl (hts (.fieldLink RX5 45 "RestitutoryModel" "kinds" "[I") (by decide +kernel)) (v := .ref (xa 20 14)) rfl dX5_rebut_29 ?_
      refine lv_iload hx hb dX5_rebut_32 (lv_at hl 5 rfl) ?_
      refine m_ild hx hb hW 14 80 (by unfold mArr; decide) rfl rfl ((8 * ti) + xi) (by omega) (v := σ 14 ((8 * ti) + xi)) rfl dX5_rebut_34 ?_
      have b_34 := hB 14 ((8 * ti) + xi)
      refine lv_if_ne (tgt := 42) hx hb dX5_rebut_35 (by decide) (fun c_35 => ?_) (fun c_35 => ?_)
      · -- ne taken
        have c_35 : ¬ (σ 14 ((8 * ti) + xi) = 0) := fun h_ => c_35 ((x_eqZ (a := σ 14 ((8 * ti) + xi)) (by omega)).mpr h_)
        refine lv_iconst (v := nI (0)) hx hb dX5_rebut_42 (by decide +kernel) ?_
        exact J43 _ _ _ hW (tv.zero (c_35))
      · -- ne not
        have c_35 := (x_eqZ (a := σ 14 ((8 * ti) + xi)) (by omega)).mp c_35
        refine lv_iconst (v := nI (1)) hx hb dX5_rebut_38 (by decide +kernel) ?_
        refine lv_goto (tgt := 43) hx hb dX5_rebut_39 (by decide) ?_
        exact J43 _ _ _ hW (tv.one (c_35))

set_option maxHeartbeats 4000000 in
set_option maxRecDepth 100000 in
theorem c_X5_settle (l : Launch) (D : xD) (sa : Nat → Nat) (xa : xA) (G0 : xG) (σ : Sg) (ρ : Nat → Nat) (la : Nat) (hg : Gd σ) (t x : Int32) (bn : Nat) (hbn : bn < 2) : xCi l yX5_settle wsX5_settle ({ frames := 18, cells := 0, slots := 0, locals := 600 } : Room) D sa xa (mG G0 D xa σ ρ la) [.ref (xa 20 0), .int t, .int x, .int (nI bn)] (fun r u => ∃ k, gk (pS σ t x) True True k ∧ u = (xa, mG G0 D xa (t_settle σ t x bn k) ρ k) ∧ (k = 0 → tv r (σ 18 (8 * xn t + xn x) = 1))) 0 0 := by
  have hB := hg.1
  have h5 := hg.2.1.1
  have h7 := hg.2.1.2.1
  have h12 := hg.2.1.2.2.1
  have hy0 := hg.2.1.2.2.2.1
  have hy1 := hg.2.1.2.2.2.2
  have hm := hg.hm
  have hs8 := hg.hs8
  intro sz
  refine Met.ofW (cc := cX5_settle) (maxL := 5) (ret := (some .boolean)) (by decide +kernel) rfl ?_
  intro p e s m args below meth c s₁ B hml hv
  obtain ⟨rfl, hsz, hv2⟩ := hv
  subst hsz
  have hx := B.exec
  have hb := B.bytes
  have hr := B.returns
  have hts := atoms_spec (ws := wsX5_settle) B.pre
  have hown : s.vm.findClass RX5 = some m.cls := findClass_of_methodNamed B.named
  have hlocks := B.notSynchronized
  have hin5 : ∀ w ∈ wsX50, w ∈ wsX5_settle := by decide +kernel
  have hW := xW.start (s := s) ⟨rfl, hv2⟩
  clear hv2
  generalize xAw xa (mG G0 D xa σ ρ la) s.heap.size = A at hW ⊢
  have hl := lv_entry ([.ref (xa 20 0), .int (t), .int (x), .int (nI (bn))]) (n := 5) (Nat.le_of_ble_eq_true rfl)
  rw [lg_entry_eq]
  generalize (lg_sl ([.ref (xa 20 0), .int (t), .int (x), .int (nI (bn))]) ++ List.replicate (5 - (lg_sl ([.ref (xa 20 0), .int (t), .int (x), .int (nI (bn))])).length) Slot.unset).toArray = ls at hl ⊢
  have hl : lv_has ls 5 [(0, .ref (xa 20 0)), (1, .int (t)), (2, .int (x)), (3, .int (nI (bn)))] := hl
  refine lv_aload_n hx hb dX5_settle_0 rfl (lv_at hl 0 rfl) ?_
  refine lv_aload_n hx hb dX5_settle_1 rfl (lv_at hl 0 rfl) ?_
  refine lv_iload_n hx hb dX5_settle_2 rfl (lv_at hl 1 rfl) ?_
  refine lv_iload_n hx hb dX5_settle_3 rfl (lv_at hl 2 rfl) ?_
  refine xv_i (As := [.int (t), .int (x)]) (rest := [.ref (xa 20 0)]) ⟨hx, hb, hml, hown, hts⟩ (c_X5_isStation l D sa xa G0 σ ρ la hB h12 t x) (cwV 2 hts gX5_settle_X5_isStation rfl rfl rfl (by decide +kernel) ⟨Nat.le_of_ble_eq_true rfl, Nat.le_of_ble_eq_true rfl⟩) hW (mG_obj _ _ _ _ _ _) rfl rfl rfl rfl hl.1 (Nat.le_of_ble_eq_true rfl) dX5_settle_4 ⟨Nat.le_of_ble_eq_true rfl, Nat.le_of_ble_eq_true rfl⟩ (fun r_4 xa1 G1 H locs hp hW => ?_)
  obtain ⟨hu, hr_4⟩ := hp
  cases hu
  refine lv_iconst (v := nI (1)) hx hb dX5_settle_7 (by decide +kernel) ?_
  refine lv_iconst (v := nI (1)) hx hb dX5_settle_8 (by decide +kernel) ?_
  refine xv_i (As := [.int (r_4), .int (nI (1)), .int (nI (1))]) (rest := []) ⟨hx, hb, hml, hown, hts⟩ (c_X5_goes l D sa xa G0 σ ρ la hB hr_4 (tv.one trivial) (tv.one trivial)) (cwV 3 hts gX5_settle_X5_goes rfl rfl rfl (by decide +kernel) ⟨Nat.le_of_ble_eq_true rfl, Nat.le_of_ble_eq_true rfl⟩) hW (mG_obj _ _ _ _ _ _) rfl rfl rfl rfl hl.1 (Nat.le_of_ble_eq_true rfl) dX5_settle_9 ⟨Nat.le_of_ble_eq_true rfl, Nat.le_of_ble_eq_true rfl⟩ (fun r_9 xa1 G1 H locs hp hW => ?_)
  obtain ⟨la1, hu, hr_9, hk⟩ := hp
  cases hu
  refine lv_if_ne (tgt := 17) hx hb dX5_settle_12 (by decide) (fun c_12 => ?_) (fun c_12 => ?_)
  · -- ne taken
    have c_12 := hr_9.t c_12
    subst c_12
    obtain ⟨hz1, hz2, hz3⟩ := hk.zero
    have hps := hz1
    unfold pS at hps
    have hu_ti := hps.1
    unfold pT at hu_ti
    obtain ⟨ti, hti, rfl⟩ := x_nat (n := σ 12 0) (x := t) (by omega) (by omega)
    have hps2 := hps.2
    rw [xn_nI (by omega)] at hps2
    have h8i := hs8 ti
    obtain ⟨xi, hxi, rfl⟩ := x_nat (n := σ 11 ti) (x := x) (by omega) (by omega)
    refine lv_aload_n hx hb dX5_settle_17 rfl (lv_at hl 0 rfl) ?_
    refine m_get hx hb hts hin5 hown hW 18 (by decide) rfl (hts (.fieldLink RX5 57 "RestitutoryModel" "settled" "[Z") (by decide +kernel)) (v := .ref (xa 20 18)) rfl dX5_settle_18 ?_
    refine lv_bipush (v := nI (8)) hx hb dX5_settle_21 (by decide +kernel) ?_
    refine lv_iload_n hx hb dX5_settle_23 rfl (lv_at hl 1 rfl) ?_
    refine lv_imul hx hb dX5_settle_24 ?_
    rw [pk_mul]
    refine lv_iload_n hx hb dX5_settle_25 rfl (lv_at hl 2 rfl) ?_
    refine lv_iadd hx hb dX5_settle_26 ?_
    rw [nI_add]
    refine m_zld hx hb hW 18 80 (by unfold mArr; decide) rfl rfl ((8 * ti) + xi) (by omega) (v := σ 18 ((8 * ti) + xi)) rfl dX5_settle_27 ?_
    have b_27 := hB 18 ((8 * ti) + xi)
    refine lv_istore (lv' := [(4, .int (nI (σ 18 ((8 * ti) + xi)))), (0, .ref (xa 20 0)), (1, .int (nI (ti))), (2, .int (nI (xi))), (3, .int (nI (bn)))]) hx hb dX5_settle_28 hl (by decide) rfl (fun ls hl => ?_)
    have hl : lv_has ls 5 [(0, .ref (xa 20 0)), (1, .int (nI (ti))), (2, .int (nI (xi))), (3, .int (nI (bn))), (4, .int (nI (σ 18 ((8 * ti) + xi))))] := lv_sub hl [1, 2, 3, 4, 0] rfl
    refine lv_aload_n hx hb dX5_settle_30 rfl (lv_at hl 0 rfl) ?_
    refine m_get hx hb hts hin5 hown hW 18 (by decide) rfl (hts (.fieldLink RX5 57 "RestitutoryModel" "settled" "[Z") (by decide +kernel)) (v := .ref (xa 20 18)) rfl dX5_settle_31 ?_
    refine lv_bipush (v := nI (8)) hx hb dX5_settle_34 (by decide +kernel) ?_
    refine lv_iload_n hx hb dX5_settle_36 rfl (lv_at hl 1 rfl) ?_
    refine lv_imul hx hb dX5_settle_37 ?_
    rw [pk_mul]
    refine lv_iload_n hx hb dX5_settle_38 rfl (lv_at hl 2 rfl) ?_
    refine lv_iadd hx hb dX5_settle_39 ?_
    rw [nI_add]
    refine lv_iload_n hx hb dX5_settle_40 rfl (lv_at hl 3 rfl) ?_
    refine m_zst hx hb hW 18 80 (by unfold mArr; decide) rfl rfl ((8 * ti) + xi) (by omega) (v := bn) (by omega) dX5_settle_41 (fun H locs hW => ?_)
    refine lv_iload hx hb dX5_settle_42 (lv_at hl 4 rfl) ?_
    have hlt : σ 18 ((8 * ti) + xi) < 2 := ((hg.2.2.2.2.1 ti hti).2.2 xi (by omega)).2.2.2.2.2.2
    exact xe_i hx hb hr (tv.ofNat hlt).nar hlocks hW ⟨0, hk, by unfold t_settle; simp only [if_true, xn_nI (n := ti) (by omega), xn_nI (n := xi) (by omega)], fun _ => by rw [xn_nI (by omega), xn_nI (by omega)]; exact tv.ofNat hlt⟩ (Nat.le_refl _) (Nat.le_refl _) dX5_settle_44
  · -- ne not
    have c_12 := hr_9.f c_12
    refine lv_iconst (v := nI (0)) hx hb dX5_settle_15 (by decide +kernel) ?_
    exact xe_i hx hb hr rfl hlocks hW ⟨la1, hk, by unfold t_settle; rw [if_neg c_12], fun h => absurd h c_12⟩ (Nat.le_refl _) (Nat.le_refl _) dX5_settle_16

set_option maxHeartbeats 4000000 in
set_option maxRecDepth 100000 in
theorem c_X5_livingOf (l : Launch) (D : xD) (sa : Nat → Nat) (xa : xA) (G0 : xG) (σ : Sg) (ρ : Nat → Nat) (la : Nat) (hg : Gd σ) (i : Nat) (hi : i < σ 5 0) : mRd l yX5_livingOf wsX5_livingOf ({ frames := 10, cells := 0, slots := 0, locals := 200 } : Room) D sa xa G0 σ ρ la [.int (nI i)] (fun r => r = oi (fh σ 1 i)) := by
  have hB := hg.1
  have h5 := hg.2.1.1
  have h7 := hg.2.1.2.1
  have h12 := hg.2.1.2.2.1
  have hy0 := hg.2.1.2.2.2.1
  have hy1 := hg.2.1.2.2.2.2
  have hm := hg.hm
  have hs8 := hg.hs8
  intro sz
  refine Met.ofW (cc := cX5_livingOf) (maxL := 3) (ret := (some .int)) (by decide +kernel) rfl ?_
  intro p e s m args below meth c s₁ B hml hv
  obtain ⟨rfl, hsz, hv2⟩ := hv
  subst hsz
  have hx := B.exec
  have hb := B.bytes
  have hr := B.returns
  have hts := atoms_spec (ws := wsX5_livingOf) B.pre
  have hown : s.vm.findClass RX5 = some m.cls := findClass_of_methodNamed B.named
  have hlocks := B.notSynchronized
  have hin5 : ∀ w ∈ wsX50, w ∈ wsX5_livingOf := by decide +kernel
  have hW := xW.start (s := s) ⟨rfl, hv2⟩
  clear hv2
  generalize xAw xa (mG G0 D xa σ ρ la) s.heap.size = A at hW ⊢
  have hl := lv_entry ([.ref (xa 20 0), .int (nI (i))]) (n := 3) (Nat.le_of_ble_eq_true rfl)
  rw [lg_entry_eq]
  generalize (lg_sl ([.ref (xa 20 0), .int (nI (i))]) ++ List.replicate (3 - (lg_sl ([.ref (xa 20 0), .int (nI (i))])).length) Slot.unset).toArray = ls at hl ⊢
  have hl : lv_has ls 3 [(0, .ref (xa 20 0)), (1, .int (nI (i)))] := hl
  refine lv_iconst (v := nI (0)) hx hb dX5_livingOf_0 (by decide +kernel) ?_
  refine lv_istore_n (lv' := [(2, .int (nI (0))), (0, .ref (xa 20 0)), (1, .int (nI (i)))]) hx hb dX5_livingOf_1 rfl hl (by decide) rfl (fun ls hl => ?_)
  have hl : lv_has ls 3 [(0, .ref (xa 20 0)), (1, .int (nI (i))), (2, .int (nI (0)))] := lv_sub hl [1, 2, 0] rfl
  refine x_loop (X := Nat) (I := fun n xv H locs ls => n = σ 4 i - xv ∧ xW D sa A s xa (mG G0 D xa σ ρ la) H locs ∧ lv_has ls 3 [(0, .ref (xa 20 0)), (1, .int (nI (i))), (2, .int (nI (xv)))] ∧ (fh σ 1 i = ff (hg1 σ 0 i) xv (σ 4 i - xv)) ∧ (xv ≤ σ 4 i)) (hd := 2) ?_ (n := _) (x := (0)) ⟨rfl, hW, hl, fh_eq σ 0 i, by (try dsimp only); omega⟩
  rintro n k H locs ls ⟨hn, hW, hl, hf, hk⟩ ih2
  try dsimp only at hn hW hl hf hk
  refine lv_iload_n hx hb dX5_livingOf_2 rfl (lv_at hl 2 rfl) ?_
  refine lv_aload_n hx hb dX5_livingOf_3 rfl (lv_at hl 0 rfl) ?_
  refine m_get hx hb hts hin5 hown hW 4 (by decide) rfl (hts (.fieldLink RX5 24 "RestitutoryModel" "heirMany" "[I") (by decide +kernel)) (v := .ref (xa 20 4)) rfl dX5_livingOf_4 ?_
  refine lv_iload_n hx hb dX5_livingOf_7 rfl (lv_at hl 1 rfl) ?_
  refine m_ild hx hb hW 4 12 (by unfold mArr; decide) rfl rfl (i) (by omega) (v := σ 4 i) rfl dX5_livingOf_8 ?_
  have b_8 := hB 4 (i)
  refine lv_icmp_ge (tgt := 49) hx hb dX5_livingOf_9 (by decide) (fun c_9 => ?_) (fun c_9 => ?_)
  · -- ge taken
    have c_9 := Int32.le_iff_toInt_le.mp c_9
    rw [nI_toInt (n := k) (by omega)] at c_9
    rw [nI_toInt (n := σ 4 i) (by omega)] at c_9
    refine lv_iconst (v := -1) hx hb dX5_livingOf_49 (by decide +kernel) ?_
    exact xe_i hx hb hr rfl hlocks hW ⟨rfl, by rw [ff_end hf (by omega)]; rfl⟩ (Nat.le_refl _) (Nat.le_refl _) dX5_livingOf_50
  · -- ge not
    have c_9 : ¬ ((nI (σ 4 i)).toInt ≤ (nI (k)).toInt) := fun h => c_9 (Int32.le_iff_toInt_le.mpr h)
    rw [nI_toInt (n := k) (by omega)] at c_9
    rw [nI_toInt (n := σ 4 i) (by omega)] at c_9
    have hhr := hg.heir hi (k := k) (by omega)
    have hmi := hm i
    refine lv_aload_n hx hb dX5_livingOf_12 rfl (lv_at hl 0 rfl) ?_
    refine m_get hx hb hts hin5 hown hW 2 (by decide) rfl (hts (.fieldLink RX5 17 "RestitutoryModel" "dead" "[Z") (by decide +kernel)) (v := .ref (xa 20 2)) rfl dX5_livingOf_13 ?_
    refine lv_aload_n hx hb dX5_livingOf_16 rfl (lv_at hl 0 rfl) ?_
    refine m_get hx hb hts hin5 hown hW 3 (by decide) rfl (hts (.fieldLink RX5 21 "RestitutoryModel" "heirs" "[I") (by decide +kernel)) (v := .ref (xa 20 3)) rfl dX5_livingOf_17 ?_
    refine lv_bipush (v := nI (12)) hx hb dX5_livingOf_20 (by decide +kernel) ?_
    refine lv_iload_n hx hb dX5_livingOf_22 rfl (lv_at hl 1 rfl) ?_
    refine lv_imul hx hb dX5_livingOf_23 ?_
    rw [pk_mul]
    refine lv_iload_n hx hb dX5_livingOf_24 rfl (lv_at hl 2 rfl) ?_
    refine lv_iadd hx hb dX5_livingOf_25 ?_
    rw [nI_add]
    refine m_ild hx hb hW 3 144 (by unfold mArr; decide) rfl rfl ((12 * i) + k) (by omega) (v := σ 3 ((12 * i) + k)) rfl dX5_livingOf_26 ?_
    have b_26 := hB 3 ((12 * i) + k)
    refine m_zld hx hb hW 2 12 (by unfold mArr; decide) rfl rfl (σ 3 ((12 * i) + k)) (by omega) (v := σ 2 (σ 3 ((12 * i) + k))) rfl dX5_livingOf_27 ?_
    have b_27 := hB 2 (σ 3 ((12 * i) + k))
    refine lv_if_ne (tgt := 43) hx hb dX5_livingOf_28 (by decide) (fun c_28 => ?_) (fun c_28 => ?_)
    · -- ne taken
      have c_28 : ¬ (σ 2 (σ 3 ((12 * i) + k)) = 0) := fun h_ => c_28 ((x_eqZ (a := σ 2 (σ 3 ((12 * i) + k))) (by omega)).mpr h_)
      refine lv_iinc (v := nI (k + 1)) (lv' := [(2, .int (nI (k + 1))), (0, .ref (xa 20 0)), (1, .int (nI (i)))]) hx hb dX5_livingOf_43 hl (k := 2) rfl (x_inc k 1 rfl) (by decide) rfl (fun ls hl => ?_)
      have hl : lv_has ls 3 [(0, .ref (xa 20 0)), (1, .int (nI (i))), (2, .int (nI (k + 1)))] := lv_sub hl [1, 2, 0] rfl
      refine lv_goto (tgt := 2) hx hb dX5_livingOf_46 (by decide) ?_
      exact ih2 (σ 4 i - (k + 1)) (k + 1) _ _ _ (by omega) ⟨rfl, hW, hl, ff_none hf (by omega) (by unfold hg1; rw [if_neg c_28]; rfl), by (try dsimp only); omega⟩
    · -- ne not
      have c_28 := (x_eqZ (a := σ 2 (σ 3 ((12 * i) + k))) (by omega)).mp c_28
      refine lv_aload_n hx hb dX5_livingOf_31 rfl (lv_at hl 0 rfl) ?_
      refine m_get hx hb hts hin5 hown hW 3 (by decide) rfl (hts (.fieldLink RX5 21 "RestitutoryModel" "heirs" "[I") (by decide +kernel)) (v := .ref (xa 20 3)) rfl dX5_livingOf_32 ?_
      refine lv_bipush (v := nI (12)) hx hb dX5_livingOf_35 (by decide +kernel) ?_
      refine lv_iload_n hx hb dX5_livingOf_37 rfl (lv_at hl 1 rfl) ?_
      refine lv_imul hx hb dX5_livingOf_38 ?_
      rw [pk_mul]
      refine lv_iload_n hx hb dX5_livingOf_39 rfl (lv_at hl 2 rfl) ?_
      refine lv_iadd hx hb dX5_livingOf_40 ?_
      rw [nI_add]
      refine m_ild hx hb hW 3 144 (by unfold mArr; decide) rfl rfl ((12 * i) + k) (by omega) (v := σ 3 ((12 * i) + k)) rfl dX5_livingOf_41 ?_
      have b_41 := hB 3 ((12 * i) + k)
      exact xe_i hx hb hr rfl hlocks hW ⟨rfl, by rw [ff_some hf (by omega) (show hg1 σ 0 i k = some (σ 3 (12 * i + k)) by unfold hg1; rw [if_pos c_28])]; rfl⟩ (Nat.le_refl _) (Nat.le_refl _) dX5_livingOf_42

set_option maxHeartbeats 4000000 in
set_option maxRecDepth 100000 in
theorem c_X5_nearOf (l : Launch) (D : xD) (sa : Nat → Nat) (xa : xA) (G0 : xG) (σ : Sg) (ρ : Nat → Nat) (la : Nat) (hg : Gd σ) (i : Nat) (hi : i < σ 5 0) : mRd l yX5_nearOf wsX5_nearOf ({ frames := 12, cells := 0, slots := 0, locals := 300 } : Room) D sa xa G0 σ ρ la [.int (nI i)] (fun r => r = oi (fh σ 2 i)) := by
  have hB := hg.1
  have h5 := hg.2.1.1
  have h7 := hg.2.1.2.1
  have h12 := hg.2.1.2.2.1
  have hy0 := hg.2.1.2.2.2.1
  have hy1 := hg.2.1.2.2.2.2
  have hm := hg.hm
  have hs8 := hg.hs8
  intro sz
  refine Met.ofW (cc := cX5_nearOf) (maxL := 5) (ret := (some .int)) (by decide +kernel) rfl ?_
  intro p e s m args below meth c s₁ B hml hv
  obtain ⟨rfl, hsz, hv2⟩ := hv
  subst hsz
  have hx := B.exec
  have hb := B.bytes
  have hr := B.returns
  have hts := atoms_spec (ws := wsX5_nearOf) B.pre
  have hown : s.vm.findClass RX5 = some m.cls := findClass_of_methodNamed B.named
  have hlocks := B.notSynchronized
  have hin5 : ∀ w ∈ wsX50, w ∈ wsX5_nearOf := by decide +kernel
  have hW := xW.start (s := s) ⟨rfl, hv2⟩
  clear hv2
  generalize xAw xa (mG G0 D xa σ ρ la) s.heap.size = A at hW ⊢
  have hl := lv_entry ([.ref (xa 20 0), .int (nI (i))]) (n := 5) (Nat.le_of_ble_eq_true rfl)
  rw [lg_entry_eq]
  generalize (lg_sl ([.ref (xa 20 0), .int (nI (i))]) ++ List.replicate (5 - (lg_sl ([.ref (xa 20 0), .int (nI (i))])).length) Slot.unset).toArray = ls at hl ⊢
  have hl : lv_has ls 5 [(0, .ref (xa 20 0)), (1, .int (nI (i)))] := hl
  refine lv_iconst (v := nI (0)) hx hb dX5_nearOf_0 (by decide +kernel) ?_
  refine lv_istore_n (lv' := [(2, .int (nI (0))), (0, .ref (xa 20 0)), (1, .int (nI (i)))]) hx hb dX5_nearOf_1 rfl hl (by decide) rfl (fun ls hl => ?_)
  have hl : lv_has ls 5 [(0, .ref (xa 20 0)), (1, .int (nI (i))), (2, .int (nI (0)))] := lv_sub hl [1, 2, 0] rfl
  refine x_loop (X := Nat) (I := fun n xv H locs ls => n = σ 4 i - xv ∧ xW D sa A s xa (mG G0 D xa σ ρ la) H locs ∧ lv_has ls 5 [(0, .ref (xa 20 0)), (1, .int (nI (i))), (2, .int (nI (xv)))] ∧ (fh σ 2 i = ff (hg1 σ 1 i) xv (σ 4 i - xv)) ∧ (xv ≤ σ 4 i)) (hd := 2) ?_ (n := _) (x := (0)) ⟨rfl, hW, hl, fh_eq σ 1 i, by (try dsimp only); omega⟩
  rintro n k H locs ls ⟨hn, hW, hl, hf, hk⟩ ih2
  try dsimp only at hn hW hl hf hk
  refine lv_iload_n hx hb dX5_nearOf_2 rfl (lv_at hl 2 rfl) ?_
  refine lv_aload_n hx hb dX5_nearOf_3 rfl (lv_at hl 0 rfl) ?_
  refine m_get hx hb hts hin5 hown hW 4 (by decide) rfl (hts (.fieldLink RX5 24 "RestitutoryModel" "heirMany" "[I") (by decide +kernel)) (v := .ref (xa 20 4)) rfl dX5_nearOf_4 ?_
  refine lv_iload_n hx hb dX5_nearOf_7 rfl (lv_at hl 1 rfl) ?_
  refine m_ild hx hb hW 4 12 (by unfold mArr; decide) rfl rfl (i) (by omega) (v := σ 4 i) rfl dX5_nearOf_8 ?_
  have b_8 := hB 4 (i)
  refine lv_icmp_ge (tgt := 59) hx hb dX5_nearOf_9 (by decide) (fun c_9 => ?_) (fun c_9 => ?_)
  · -- ge taken
    have c_9 := Int32.le_iff_toInt_le.mp c_9
    rw [nI_toInt (n := k) (by omega)] at c_9
    rw [nI_toInt (n := σ 4 i) (by omega)] at c_9
    refine lv_iconst (v := -1) hx hb dX5_nearOf_59 (by decide +kernel) ?_
    exact xe_i hx hb hr rfl hlocks hW ⟨rfl, by rw [ff_end hf (by omega)]; rfl⟩ (Nat.le_refl _) (Nat.le_refl _) dX5_nearOf_60
  · -- ge not
    have c_9 : ¬ ((nI (σ 4 i)).toInt ≤ (nI (k)).toInt) := fun h => c_9 (Int32.le_iff_toInt_le.mpr h)
    rw [nI_toInt (n := k) (by omega)] at c_9
    rw [nI_toInt (n := σ 4 i) (by omega)] at c_9
    have hhr := hg.heir hi (k := k) (by omega)
    have hmi := hm i
    refine lv_aload_n hx hb dX5_nearOf_12 rfl (lv_at hl 0 rfl) ?_
    refine m_get hx hb hts hin5 hown hW 3 (by decide) rfl (hts (.fieldLink RX5 21 "RestitutoryModel" "heirs" "[I") (by decide +kernel)) (v := .ref (xa 20 3)) rfl dX5_nearOf_13 ?_
    refine lv_bipush (v := nI (12)) hx hb dX5_nearOf_16 (by decide +kernel) ?_
    refine lv_iload_n hx hb dX5_nearOf_18 rfl (lv_at hl 1 rfl) ?_
    refine lv_imul hx hb dX5_nearOf_19 ?_
    rw [pk_mul]
    refine lv_iload_n hx hb dX5_nearOf_20 rfl (lv_at hl 2 rfl) ?_
    refine lv_iadd hx hb dX5_nearOf_21 ?_
    rw [nI_add]
    refine m_ild hx hb hW 3 144 (by unfold mArr; decide) rfl rfl ((12 * i) + k) (by omega) (v := σ 3 ((12 * i) + k)) rfl dX5_nearOf_22 ?_
    have b_22 := hB 3 ((12 * i) + k)
    refine lv_istore_n (lv' := [(3, .int (nI (σ 3 ((12 * i) + k)))), (0, .ref (xa 20 0)), (1, .int (nI (i))), (2, .int (nI (k)))]) hx hb dX5_nearOf_23 rfl hl (by decide) rfl (fun ls hl => ?_)
    have hl : lv_has ls 5 [(0, .ref (xa 20 0)), (1, .int (nI (i))), (2, .int (nI (k))), (3, .int (nI (σ 3 ((12 * i) + k))))] := lv_sub hl [1, 2, 3, 0] rfl
    refine lv_aload_n hx hb dX5_nearOf_24 rfl (lv_at hl 0 rfl) ?_
    refine m_get hx hb hts hin5 hown hW 2 (by decide) rfl (hts (.fieldLink RX5 17 "RestitutoryModel" "dead" "[Z") (by decide +kernel)) (v := .ref (xa 20 2)) rfl dX5_nearOf_25 ?_
    refine lv_iload_n hx hb dX5_nearOf_28 rfl (lv_at hl 3 rfl) ?_
    refine m_zld hx hb hW 2 12 (by unfold mArr; decide) rfl rfl (σ 3 ((12 * i) + k)) (by omega) (v := σ 2 (σ 3 ((12 * i) + k))) rfl dX5_nearOf_29 ?_
    have b_29 := hB 2 (σ 3 ((12 * i) + k))
    refine lv_if_eq (tgt := 41) hx hb dX5_nearOf_30 (by decide) (fun c_30 => ?_) (fun c_30 => ?_)
    · -- eq taken
      have c_30 := (x_eqZ (a := σ 2 (σ 3 ((12 * i) + k))) (by omega)).mp c_30
      refine lv_iload_n hx hb dX5_nearOf_41 rfl (lv_at hl 3 rfl) ?_
      refine lv_istore (lv' := [(4, .int (nI (σ 3 ((12 * i) + k)))), (0, .ref (xa 20 0)), (1, .int (nI (i))), (2, .int (nI (k))), (3, .int (nI (σ 3 ((12 * i) + k))))]) hx hb dX5_nearOf_42 hl (by decide) rfl (fun ls hl => ?_)
      have hl : lv_has ls 5 [(0, .ref (xa 20 0)), (1, .int (nI (i))), (2, .int (nI (k))), (3, .int (nI (σ 3 ((12 * i) + k)))), (4, .int (nI (σ 3 ((12 * i) + k))))] := lv_sub hl [1, 2, 3, 4, 0] rfl
      refine lv_iload hx hb dX5_nearOf_44 (lv_at hl 4 rfl) ?_
      refine lv_iconst (v := -1) hx hb dX5_nearOf_46 (by decide +kernel) ?_
      refine lv_icmp_eq (tgt := 53) hx hb dX5_nearOf_47 (by decide) (fun c_47 => ?_) (fun c_47 => ?_)
      · -- eq taken
        have c_47t := congrArg Int32.toInt c_47
        rw [nI_toInt (n := σ 3 ((12 * i) + k)) (by omega)] at c_47t
        rw [x_tm1] at c_47t
        exact absurd c_47t (by omega)
      · -- eq not
        have c_47t : ¬ (nI (σ 3 ((12 * i) + k))).toInt = ((-1 : Int32)).toInt := fun h => c_47 (Int32.toInt_inj.mp h)
        rw [nI_toInt (n := σ 3 ((12 * i) + k)) (by omega)] at c_47t
        rw [x_tm1] at c_47t
        refine lv_iload hx hb dX5_nearOf_50 (lv_at hl 4 rfl) ?_
        exact xe_i hx hb hr rfl hlocks hW ⟨rfl, by rw [ff_some hf (by omega) (show hg1 σ 1 i k = some (σ 3 (12 * i + k)) by unfold hg1; rw [if_pos c_30])]; rfl⟩ (Nat.le_refl _) (Nat.le_refl _) dX5_nearOf_52
    · -- eq not
      have c_30 : ¬ (σ 2 (σ 3 ((12 * i) + k)) = 0) := fun h_ => c_30 ((x_eqZ (a := σ 2 (σ 3 ((12 * i) + k))) (by omega)).mpr h_)
      refine lv_aload_n hx hb dX5_nearOf_33 rfl (lv_at hl 0 rfl) ?_
      refine lv_iload_n hx hb dX5_nearOf_34 rfl (lv_at hl 3 rfl) ?_
      refine xv_i (As := [.int (nI (σ 3 ((12 * i) + k)))]) (rest := []) ⟨hx, hb, hml, hown, hts⟩ (c_X5_livingOf l D sa xa G0 σ ρ la hg (σ 3 ((12 * i) + k)) (by omega)) (cwV 1 hts gX5_nearOf_X5_livingOf rfl rfl rfl (by decide +kernel) ⟨Nat.le_of_ble_eq_true rfl, Nat.le_of_ble_eq_true rfl⟩) hW (mG_obj _ _ _ _ _ _) rfl rfl rfl rfl hl.1 (Nat.le_of_ble_eq_true rfl) dX5_nearOf_35 ⟨Nat.le_of_ble_eq_true rfl, Nat.le_of_ble_eq_true rfl⟩ (fun r_35 xa1 G1 H locs hp hW => ?_)
      obtain ⟨hu, hr_35⟩ := hp
      cases hu
      refine lv_goto (tgt := 42) hx hb dX5_nearOf_38 (by decide) ?_
      refine lv_istore (lv' := [(4, .int (r_35)), (0, .ref (xa 20 0)), (1, .int (nI (i))), (2, .int (nI (k))), (3, .int (nI (σ 3 ((12 * i) + k))))]) hx hb dX5_nearOf_42 hl (by decide) rfl (fun ls hl => ?_)
      have hl : lv_has ls 5 [(0, .ref (xa 20 0)), (1, .int (nI (i))), (2, .int (nI (k))), (3, .int (nI (σ 3 ((12 * i) + k)))), (4, .int (r_35))] := lv_sub hl [1, 2, 3, 4, 0] rfl
      refine lv_iload hx hb dX5_nearOf_44 (lv_at hl 4 rfl) ?_
      refine lv_iconst (v := -1) hx hb dX5_nearOf_46 (by decide +kernel) ?_
      refine lv_icmp_eq (tgt := 53) hx hb dX5_nearOf_47 (by decide) (fun c_47 => ?_) (fun c_47 => ?_)
      · -- eq taken
        have hno : fh σ 1 (σ 3 (12 * i + k)) = none := (oi_m1 (fun a h => by have := fh_lt hg _ _ _ hhr h; omega)).mp (by rw [← hr_35]; exact c_47)
        refine lv_iinc (v := nI (k + 1)) (lv' := [(2, .int (nI (k + 1))), (0, .ref (xa 20 0)), (1, .int (nI (i))), (3, .int (nI (σ 3 ((12 * i) + k)))), (4, .int (r_35))]) hx hb dX5_nearOf_53 hl (k := 2) rfl (x_inc k 1 rfl) (by decide) rfl (fun ls hl => ?_)
        have hl : lv_has ls 5 [(0, .ref (xa 20 0)), (1, .int (nI (i))), (2, .int (nI (k + 1))), (3, .int (nI (σ 3 ((12 * i) + k)))), (4, .int (r_35))] := lv_sub hl [1, 2, 0, 3, 4] rfl
        refine lv_goto (tgt := 2) hx hb dX5_nearOf_56 (by decide) ?_
        exact ih2 (σ 4 i - (k + 1)) (k + 1) _ _ _ (by omega) ⟨rfl, hW, lv_sub hl [0, 1, 2] rfl, ff_none hf (by omega) (by unfold hg1; rw [if_neg c_30]; exact hno), by (try dsimp only); omega⟩
      · -- eq not
        obtain ⟨hv, hv1⟩ : ∃ a, fh σ 1 (σ 3 (12 * i + k)) = some a := by
          cases hq : fh σ 1 (σ 3 (12 * i + k)) with
          | none => exact absurd (by rw [hr_35, hq]; rfl) c_47
          | some a => exact ⟨a, rfl⟩
        refine lv_iload hx hb dX5_nearOf_50 (lv_at hl 4 rfl) ?_
        exact xe_i hx hb hr rfl hlocks hW ⟨rfl, by rw [ff_some hf (by omega) (show hg1 σ 1 i k = some hv by unfold hg1; rw [if_neg c_30]; exact hv1), hr_35, hv1]⟩ (Nat.le_refl _) (Nat.le_refl _) dX5_nearOf_52

set_option maxHeartbeats 4000000 in
set_option maxRecDepth 100000 in
theorem c_X5_findsHeir (l : Launch) (D : xD) (sa : Nat → Nat) (xa : xA) (G0 : xG) (σ : Sg) (ρ : Nat → Nat) (la : Nat) (hg : Gd σ) (i : Nat) (hi : i < σ 5 0) : mRd l yX5_findsHeir wsX5_findsHeir ({ frames := 14, cells := 0, slots := 0, locals := 400 } : Room) D sa xa G0 σ ρ la [.int (nI i)] (fun r => r = oi (fh σ 3 i)) := by
  have hB := hg.1
  have h5 := hg.2.1.1
  have h7 := hg.2.1.2.1
  have h12 := hg.2.1.2.2.1
  have hy0 := hg.2.1.2.2.2.1
  have hy1 := hg.2.1.2.2.2.2
  have hm := hg.hm
  have hs8 := hg.hs8
  intro sz
  refine Met.ofW (cc := cX5_findsHeir) (maxL := 5) (ret := (some .int)) (by decide +kernel) rfl ?_
  intro p e s m args below meth c s₁ B hml hv
  obtain ⟨rfl, hsz, hv2⟩ := hv
  subst hsz
  have hx := B.exec
  have hb := B.bytes
  have hr := B.returns
  have hts := atoms_spec (ws := wsX5_findsHeir) B.pre
  have hown : s.vm.findClass RX5 = some m.cls := findClass_of_methodNamed B.named
  have hlocks := B.notSynchronized
  have hin5 : ∀ w ∈ wsX50, w ∈ wsX5_findsHeir := by decide +kernel
  have hW := xW.start (s := s) ⟨rfl, hv2⟩
  clear hv2
  generalize xAw xa (mG G0 D xa σ ρ la) s.heap.size = A at hW ⊢
  have hl := lv_entry ([.ref (xa 20 0), .int (nI (i))]) (n := 5) (Nat.le_of_ble_eq_true rfl)
  rw [lg_entry_eq]
  generalize (lg_sl ([.ref (xa 20 0), .int (nI (i))]) ++ List.replicate (5 - (lg_sl ([.ref (xa 20 0), .int (nI (i))])).length) Slot.unset).toArray = ls at hl ⊢
  have hl : lv_has ls 5 [(0, .ref (xa 20 0)), (1, .int (nI (i)))] := hl
  refine lv_iconst (v := nI (0)) hx hb dX5_findsHeir_0 (by decide +kernel) ?_
  refine lv_istore_n (lv' := [(2, .int (nI (0))), (0, .ref (xa 20 0)), (1, .int (nI (i)))]) hx hb dX5_findsHeir_1 rfl hl (by decide) rfl (fun ls hl => ?_)
  have hl : lv_has ls 5 [(0, .ref (xa 20 0)), (1, .int (nI (i))), (2, .int (nI (0)))] := lv_sub hl [1, 2, 0] rfl
  refine x_loop (X := Nat) (I := fun n xv H locs ls => n = σ 4 i - xv ∧ xW D sa A s xa (mG G0 D xa σ ρ la) H locs ∧ lv_has ls 5 [(0, .ref (xa 20 0)), (1, .int (nI (i))), (2, .int (nI (xv)))] ∧ (fh σ 3 i = ff (hg1 σ 2 i) xv (σ 4 i - xv)) ∧ (xv ≤ σ 4 i)) (hd := 2) ?_ (n := _) (x := (0)) ⟨rfl, hW, hl, fh_eq σ 2 i, by (try dsimp only); omega⟩
  rintro n k H locs ls ⟨hn, hW, hl, hf, hk⟩ ih2
  try dsimp only at hn hW hl hf hk
  refine lv_iload_n hx hb dX5_findsHeir_2 rfl (lv_at hl 2 rfl) ?_
  refine lv_aload_n hx hb dX5_findsHeir_3 rfl (lv_at hl 0 rfl) ?_
  refine m_get hx hb hts hin5 hown hW 4 (by decide) rfl (hts (.fieldLink RX5 24 "RestitutoryModel" "heirMany" "[I") (by decide +kernel)) (v := .ref (xa 20 4)) rfl dX5_findsHeir_4 ?_
  refine lv_iload_n hx hb dX5_findsHeir_7 rfl (lv_at hl 1 rfl) ?_
  refine m_ild hx hb hW 4 12 (by unfold mArr; decide) rfl rfl (i) (by omega) (v := σ 4 i) rfl dX5_findsHeir_8 ?_
  have b_8 := hB 4 (i)
  refine lv_icmp_ge (tgt := 59) hx hb dX5_findsHeir_9 (by decide) (fun c_9 => ?_) (fun c_9 => ?_)
  · -- ge taken
    have c_9 := Int32.le_iff_toInt_le.mp c_9
    rw [nI_toInt (n := k) (by omega)] at c_9
    rw [nI_toInt (n := σ 4 i) (by omega)] at c_9
    refine lv_iconst (v := -1) hx hb dX5_findsHeir_59 (by decide +kernel) ?_
    exact xe_i hx hb hr rfl hlocks hW ⟨rfl, by rw [ff_end hf (by omega)]; rfl⟩ (Nat.le_refl _) (Nat.le_refl _) dX5_findsHeir_60
  · -- ge not
    have c_9 : ¬ ((nI (σ 4 i)).toInt ≤ (nI (k)).toInt) := fun h => c_9 (Int32.le_iff_toInt_le.mpr h)
    rw [nI_toInt (n := k) (by omega)] at c_9
    rw [nI_toInt (n := σ 4 i) (by omega)] at c_9
    have hhr := hg.heir hi (k := k) (by omega)
    have hmi := hm i
    refine lv_aload_n hx hb dX5_findsHeir_12 rfl (lv_at hl 0 rfl) ?_
    refine m_get hx hb hts hin5 hown hW 3 (by decide) rfl (hts (.fieldLink RX5 21 "RestitutoryModel" "heirs" "[I") (by decide +kernel)) (v := .ref (xa 20 3)) rfl dX5_findsHeir_13 ?_
    refine lv_bipush (v := nI (12)) hx hb dX5_findsHeir_16 (by decide +kernel) ?_
    refine lv_iload_n hx hb dX5_findsHeir_18 rfl (lv_at hl 1 rfl) ?_
    refine lv_imul hx hb dX5_findsHeir_19 ?_
    rw [pk_mul]
    refine lv_iload_n hx hb dX5_findsHeir_20 rfl (lv_at hl 2 rfl) ?_
    refine lv_iadd hx hb dX5_findsHeir_21 ?_
    rw [nI_add]
    refine m_ild hx hb hW 3 144 (by unfold mArr; decide) rfl rfl ((12 * i) + k) (by omega) (v := σ 3 ((12 * i) + k)) rfl dX5_findsHeir_22 ?_
    have b_22 := hB 3 ((12 * i) + k)
    refine lv_istore_n (lv' := [(3, .int (nI (σ 3 ((12 * i) + k)))), (0, .ref (xa 20 0)), (1, .int (nI (i))), (2, .int (nI (k)))]) hx hb dX5_findsHeir_23 rfl hl (by decide) rfl (fun ls hl => ?_)
    have hl : lv_has ls 5 [(0, .ref (xa 20 0)), (1, .int (nI (i))), (2, .int (nI (k))), (3, .int (nI (σ 3 ((12 * i) + k))))] := lv_sub hl [1, 2, 3, 0] rfl
    refine lv_aload_n hx hb dX5_findsHeir_24 rfl (lv_at hl 0 rfl) ?_
    refine m_get hx hb hts hin5 hown hW 2 (by decide) rfl (hts (.fieldLink RX5 17 "RestitutoryModel" "dead" "[Z") (by decide +kernel)) (v := .ref (xa 20 2)) rfl dX5_findsHeir_25 ?_
    refine lv_iload_n hx hb dX5_findsHeir_28 rfl (lv_at hl 3 rfl) ?_
    refine m_zld hx hb hW 2 12 (by unfold mArr; decide) rfl rfl (σ 3 ((12 * i) + k)) (by omega) (v := σ 2 (σ 3 ((12 * i) + k))) rfl dX5_findsHeir_29 ?_
    have b_29 := hB 2 (σ 3 ((12 * i) + k))
    refine lv_if_eq (tgt := 41) hx hb dX5_findsHeir_30 (by decide) (fun c_30 => ?_) (fun c_30 => ?_)
    · -- eq taken
      have c_30 := (x_eqZ (a := σ 2 (σ 3 ((12 * i) + k))) (by omega)).mp c_30
      refine lv_iload_n hx hb dX5_findsHeir_41 rfl (lv_at hl 3 rfl) ?_
      refine lv_istore (lv' := [(4, .int (nI (σ 3 ((12 * i) + k)))), (0, .ref (xa 20 0)), (1, .int (nI (i))), (2, .int (nI (k))), (3, .int (nI (σ 3 ((12 * i) + k))))]) hx hb dX5_findsHeir_42 hl (by decide) rfl (fun ls hl => ?_)
      have hl : lv_has ls 5 [(0, .ref (xa 20 0)), (1, .int (nI (i))), (2, .int (nI (k))), (3, .int (nI (σ 3 ((12 * i) + k)))), (4, .int (nI (σ 3 ((12 * i) + k))))] := lv_sub hl [1, 2, 3, 4, 0] rfl
      refine lv_iload hx hb dX5_findsHeir_44 (lv_at hl 4 rfl) ?_
      refine lv_iconst (v := -1) hx hb dX5_findsHeir_46 (by decide +kernel) ?_
      refine lv_icmp_eq (tgt := 53) hx hb dX5_findsHeir_47 (by decide) (fun c_47 => ?_) (fun c_47 => ?_)
      · -- eq taken
        have c_47t := congrArg Int32.toInt c_47
        rw [nI_toInt (n := σ 3 ((12 * i) + k)) (by omega)] at c_47t
        rw [x_tm1] at c_47t
        exact absurd c_47t (by omega)
      · -- eq not
        have c_47t : ¬ (nI (σ 3 ((12 * i) + k))).toInt = ((-1 : Int32)).toInt := fun h => c_47 (Int32.toInt_inj.mp h)
        rw [nI_toInt (n := σ 3 ((12 * i) + k)) (by omega)] at c_47t
        rw [x_tm1] at c_47t
        refine lv_iload hx hb dX5_findsHeir_50 (lv_at hl 4 rfl) ?_
        exact xe_i hx hb hr rfl hlocks hW ⟨rfl, by rw [ff_some hf (by omega) (show hg1 σ 2 i k = some (σ 3 (12 * i + k)) by unfold hg1; rw [if_pos c_30])]; rfl⟩ (Nat.le_refl _) (Nat.le_refl _) dX5_findsHeir_52
    · -- eq not
      have c_30 : ¬ (σ 2 (σ 3 ((12 * i) + k)) = 0) := fun h_ => c_30 ((x_eqZ (a := σ 2 (σ 3 ((12 * i) + k))) (by omega)).mpr h_)
      refine lv_aload_n hx hb dX5_findsHeir_33 rfl (lv_at hl 0 rfl) ?_
      refine lv_iload_n hx hb dX5_findsHeir_34 rfl (lv_at hl 3 rfl) ?_
      refine xv_i (As := [.int (nI (σ 3 ((12 * i) + k)))]) (rest := []) ⟨hx, hb, hml, hown, hts⟩ (c_X5_nearOf l D sa xa G0 σ ρ la hg (σ 3 ((12 * i) + k)) (by omega)) (cwV 1 hts gX5_findsHeir_X5_nearOf rfl rfl rfl (by decide +kernel) ⟨Nat.le_of_ble_eq_true rfl, Nat.le_of_ble_eq_true rfl⟩) hW (mG_obj _ _ _ _ _ _) rfl rfl rfl rfl hl.1 (Nat.le_of_ble_eq_true rfl) dX5_findsHeir_35 ⟨Nat.le_of_ble_eq_true rfl, Nat.le_of_ble_eq_true rfl⟩ (fun r_35 xa1 G1 H locs hp hW => ?_)
      obtain ⟨hu, hr_35⟩ := hp
      cases hu
      refine lv_goto (tgt := 42) hx hb dX5_findsHeir_38 (by decide) ?_
      refine lv_istore (lv' := [(4, .int (r_35)), (0, .ref (xa 20 0)), (1, .int (nI (i))), (2, .int (nI (k))), (3, .int (nI (σ 3 ((12 * i) + k))))]) hx hb dX5_findsHeir_42 hl (by decide) rfl (fun ls hl => ?_)
      have hl : lv_has ls 5 [(0, .ref (xa 20 0)), (1, .int (nI (i))), (2, .int (nI (k))), (3, .int (nI (σ 3 ((12 * i) + k)))), (4, .int (r_35))] := lv_sub hl [1, 2, 3, 4, 0] rfl
      refine lv_iload hx hb dX5_findsHeir_44 (lv_at hl 4 rfl) ?_
      refine lv_iconst (v := -1) hx hb dX5_findsHeir_46 (by decide +kernel) ?_
      refine lv_icmp_eq (tgt := 53) hx hb dX5_findsHeir_47 (by decide) (fun c_47 => ?_) (fun c_47 => ?_)
      · -- eq taken
        have hno : fh σ 2 (σ 3 (12 * i + k)) = none := (oi_m1 (fun a h => by have := fh_lt hg _ _ _ hhr h; omega)).mp (by rw [← hr_35]; exact c_47)
        refine lv_iinc (v := nI (k + 1)) (lv' := [(2, .int (nI (k + 1))), (0, .ref (xa 20 0)), (1, .int (nI (i))), (3, .int (nI (σ 3 ((12 * i) + k)))), (4, .int (r_35))]) hx hb dX5_findsHeir_53 hl (k := 2) rfl (x_inc k 1 rfl) (by decide) rfl (fun ls hl => ?_)
        have hl : lv_has ls 5 [(0, .ref (xa 20 0)), (1, .int (nI (i))), (2, .int (nI (k + 1))), (3, .int (nI (σ 3 ((12 * i) + k)))), (4, .int (r_35))] := lv_sub hl [1, 2, 0, 3, 4] rfl
        refine lv_goto (tgt := 2) hx hb dX5_findsHeir_56 (by decide) ?_
        exact ih2 (σ 4 i - (k + 1)) (k + 1) _ _ _ (by omega) ⟨rfl, hW, lv_sub hl [0, 1, 2] rfl, ff_none hf (by omega) (by unfold hg1; rw [if_neg c_30]; exact hno), by (try dsimp only); omega⟩
      · -- eq not
        obtain ⟨hv, hv1⟩ : ∃ a, fh σ 2 (σ 3 (12 * i + k)) = some a := by
          cases hq : fh σ 2 (σ 3 (12 * i + k)) with
          | none => exact absurd (by rw [hr_35, hq]; rfl) c_47
          | some a => exact ⟨a, rfl⟩
        refine lv_iload hx hb dX5_findsHeir_50 (lv_at hl 4 rfl) ?_
        exact xe_i hx hb hr rfl hlocks hW ⟨rfl, by rw [ff_some hf (by omega) (show hg1 σ 2 i k = some hv by unfold hg1; rw [if_neg c_30]; exact hv1), hr_35, hv1]⟩ (Nat.le_refl _) (Nat.le_refl _) dX5_findsHeir_52

set_option maxHeartbeats 4000000 in
set_option maxRecDepth 100000 in
theorem c_X5_heirOf (l : Launch) (D : xD) (sa : Nat → Nat) (xa : xA) (G0 : xG) (σ : Sg) (ρ : Nat → Nat) (la : Nat) (hg : Gd σ) (x : Int32) : xCi l yX5_heirOf wsX5_heirOf ({ frames := 18, cells := 0, slots := 0, locals := 600 } : Room) D sa xa (mG G0 D xa σ ρ la) [.ref (xa 20 0), .int x] (fun r u => ∃ k, gk (pP σ x) True True k ∧ u = (xa, mG G0 D xa (σ) ρ k) ∧ (k = 0 → r = oi (fh σ 3 (xn x)))) 0 0 := by
  have hB := hg.1
  have h5 := hg.2.1.1
  have h7 := hg.2.1.2.1
  have h12 := hg.2.1.2.2.1
  have hy0 := hg.2.1.2.2.2.1
  have hy1 := hg.2.1.2.2.2.2
  have hm := hg.hm
  have hs8 := hg.hs8
  intro sz
  refine Met.ofW (cc := cX5_heirOf) (maxL := 2) (ret := (some .int)) (by decide +kernel) rfl ?_
  intro p e s m args below meth c s₁ B hml hv
  obtain ⟨rfl, hsz, hv2⟩ := hv
  subst hsz
  have hx := B.exec
  have hb := B.bytes
  have hr := B.returns
  have hts := atoms_spec (ws := wsX5_heirOf) B.pre
  have hown : s.vm.findClass RX5 = some m.cls := findClass_of_methodNamed B.named
  have hlocks := B.notSynchronized
  have hin5 : ∀ w ∈ wsX50, w ∈ wsX5_heirOf := by decide +kernel
  have hW := xW.start (s := s) ⟨rfl, hv2⟩
  clear hv2
  generalize xAw xa (mG G0 D xa σ ρ la) s.heap.size = A at hW ⊢
  have hl := lv_entry ([.ref (xa 20 0), .int (x)]) (n := 2) (Nat.le_of_ble_eq_true rfl)
  rw [lg_entry_eq]
  generalize (lg_sl ([.ref (xa 20 0), .int (x)]) ++ List.replicate (2 - (lg_sl ([.ref (xa 20 0), .int (x)])).length) Slot.unset).toArray = ls at hl ⊢
  have hl : lv_has ls 2 [(0, .ref (xa 20 0)), (1, .int (x))] := hl
  refine lv_aload_n hx hb dX5_heirOf_0 rfl (lv_at hl 0 rfl) ?_
  refine lv_aload_n hx hb dX5_heirOf_1 rfl (lv_at hl 0 rfl) ?_
  refine lv_iload_n hx hb dX5_heirOf_2 rfl (lv_at hl 1 rfl) ?_
  refine xv_i (As := [.int (x)]) (rest := [.ref (xa 20 0)]) ⟨hx, hb, hml, hown, hts⟩ (c_X5_isPerson l D sa xa G0 σ ρ la hB x) (cwV 1 hts gX5_heirOf_X5_isPerson rfl rfl rfl (by decide +kernel) ⟨Nat.le_of_ble_eq_true rfl, Nat.le_of_ble_eq_true rfl⟩) hW (mG_obj _ _ _ _ _ _) rfl rfl rfl rfl hl.1 (Nat.le_of_ble_eq_true rfl) dX5_heirOf_3 ⟨Nat.le_of_ble_eq_true rfl, Nat.le_of_ble_eq_true rfl⟩ (fun r_3 xa1 G1 H locs hp hW => ?_)
  obtain ⟨hu, hr_3⟩ := hp
  cases hu
  refine lv_iconst (v := nI (1)) hx hb dX5_heirOf_6 (by decide +kernel) ?_
  refine lv_iconst (v := nI (1)) hx hb dX5_heirOf_7 (by decide +kernel) ?_
  refine xv_i (As := [.int (r_3), .int (nI (1)), .int (nI (1))]) (rest := []) ⟨hx, hb, hml, hown, hts⟩ (c_X5_goes l D sa xa G0 σ ρ la hB hr_3 (tv.one trivial) (tv.one trivial)) (cwV 3 hts gX5_heirOf_X5_goes rfl rfl rfl (by decide +kernel) ⟨Nat.le_of_ble_eq_true rfl, Nat.le_of_ble_eq_true rfl⟩) hW (mG_obj _ _ _ _ _ _) rfl rfl rfl rfl hl.1 (Nat.le_of_ble_eq_true rfl) dX5_heirOf_8 ⟨Nat.le_of_ble_eq_true rfl, Nat.le_of_ble_eq_true rfl⟩ (fun r_8 xa1 G1 H locs hp hW => ?_)
  obtain ⟨la1, hu, hr_8, hk⟩ := hp
  cases hu
  refine lv_if_eq (tgt := 22) hx hb dX5_heirOf_11 (by decide) (fun c_11 => ?_) (fun c_11 => ?_)
  · -- eq taken
    have c_11 := hr_8.f c_11
    refine lv_iconst (v := nI (0)) hx hb dX5_heirOf_22 (by decide +kernel) ?_
    exact xe_i hx hb hr rfl hlocks hW ⟨la1, hk, rfl, fun h => absurd h c_11⟩ (Nat.le_refl _) (Nat.le_refl _) dX5_heirOf_23
  · -- eq not
    have c_11 := hr_8.t c_11
    subst c_11
    obtain ⟨hz1, hz2, hz3⟩ := hk.zero
    have hu_i := hz1
    unfold pP at hu_i
    obtain ⟨i, hi, rfl⟩ := x_nat (n := σ 5 0) (x := x) (by omega) (by omega)
    refine lv_aload_n hx hb dX5_heirOf_14 rfl (lv_at hl 0 rfl) ?_
    refine lv_iload_n hx hb dX5_heirOf_15 rfl (lv_at hl 1 rfl) ?_
    refine xv_i (As := [.int (nI (i))]) (rest := []) ⟨hx, hb, hml, hown, hts⟩ (c_X5_findsHeir l D sa xa G0 σ ρ 0 hg i (by omega)) (cwV 1 hts gX5_heirOf_X5_findsHeir rfl rfl rfl (by decide +kernel) ⟨Nat.le_of_ble_eq_true rfl, Nat.le_of_ble_eq_true rfl⟩) hW (mG_obj _ _ _ _ _ _) rfl rfl rfl rfl hl.1 (Nat.le_of_ble_eq_true rfl) dX5_heirOf_16 ⟨Nat.le_of_ble_eq_true rfl, Nat.le_of_ble_eq_true rfl⟩ (fun r_16 xa1 G1 H locs hp hW => ?_)
    obtain ⟨hu, hr_16⟩ := hp
    cases hu
    refine lv_goto (tgt := 23) hx hb dX5_heirOf_19 (by decide) ?_
    exact xe_i hx hb hr rfl hlocks hW ⟨0, hk, rfl, fun _ => by rw [xn_nI (by omega)]; exact hr_16⟩ (Nat.le_refl _) (Nat.le_refl _) dX5_heirOf_23
