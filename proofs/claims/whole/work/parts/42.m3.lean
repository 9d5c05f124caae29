set_option maxHeartbeats 4000000 in
set_option maxRecDepth 100000 in
theorem c_X5_die (l : Launch) (D : xD) (sa : Nat → Nat) (xa : xA) (G0 : xG) (σ : Sg) (ρ : Nat → Nat) (la : Nat) (hg : Gd σ) (x : Int32) : xCv l yX5_die wsX5_die ({ frames := 16, cells := 0, slots := 0, locals := 500 } : Room) D sa xa (mG G0 D xa σ ρ la) [.ref (xa 20 0), .int x] (fun u => ∃ k, gk (pP σ x) (σ 2 (xn x) = 0) True k ∧ u = (xa, mG G0 D xa (t_die σ x k) ρ k)) 0 0 := by
  have hB := hg.1
  have h5 := hg.2.1.1
  have h7 := hg.2.1.2.1
  have h12 := hg.2.1.2.2.1
  have hy0 := hg.2.1.2.2.2.1
  have hy1 := hg.2.1.2.2.2.2
  have hm := hg.hm
  have hs8 := hg.hs8
  intro sz
  refine Met.ofW (cc := cX5_die) (maxL := 3) (ret := none) (by decide +kernel) rfl ?_
  intro p e s m args below meth c s₁ B hml hv
  obtain ⟨rfl, hsz, hv2⟩ := hv
  subst hsz
  have hx := B.exec
  have hb := B.bytes
  have hr := B.returns
  have hts := atoms_spec (ws := wsX5_die) B.pre
  have hown : s.vm.findClass RX5 = some m.cls := findClass_of_methodNamed B.named
  have hlocks := B.notSynchronized
  have hin5 : ∀ w ∈ wsX50, w ∈ wsX5_die := by decide +kernel
  have hW := xW.start (s := s) ⟨rfl, hv2⟩
  clear hv2
  generalize xAw xa (mG G0 D xa σ ρ la) s.heap.size = A at hW ⊢
  have hl := lv_entry ([.ref (xa 20 0), .int (x)]) (n := 3) (Nat.le_of_ble_eq_true rfl)
  rw [lg_entry_eq]
  generalize (lg_sl ([.ref (xa 20 0), .int (x)]) ++ List.replicate (3 - (lg_sl ([.ref (xa 20 0), .int (x)])).length) Slot.unset).toArray = ls at hl ⊢
  have hl : lv_has ls 3 [(0, .ref (xa 20 0)), (1, .int (x))] := hl
  refine lv_aload_n hx hb dX5_die_0 rfl (lv_at hl 0 rfl) ?_
  refine lv_iload_n hx hb dX5_die_1 rfl (lv_at hl 1 rfl) ?_
  refine xv_i (As := [.int (x)]) (rest := []) ⟨hx, hb, hml, hown, hts⟩ (c_X5_isPerson l D sa xa G0 σ ρ la hB x) (cwV 1 hts gX5_die_X5_isPerson rfl rfl rfl (by decide +kernel) ⟨Nat.le_of_ble_eq_true rfl, Nat.le_of_ble_eq_true rfl⟩) hW (mG_obj _ _ _ _ _ _) rfl rfl rfl rfl hl.1 (Nat.le_of_ble_eq_true rfl) dX5_die_2 ⟨Nat.le_of_ble_eq_true rfl, Nat.le_of_ble_eq_true rfl⟩ (fun r_2 xa1 G1 H locs hp hW => ?_)
  obtain ⟨hu, hr_2⟩ := hp
  cases hu
  refine lv_istore_n (lv' := [(2, .int (r_2)), (0, .ref (xa 20 0)), (1, .int (x))]) hx hb dX5_die_5 rfl hl (by decide) rfl (fun ls hl => ?_)
  have hl : lv_has ls 3 [(0, .ref (xa 20 0)), (1, .int (x)), (2, .int (r_2))] := lv_sub hl [1, 2, 0] rfl
  refine lv_aload_n hx hb dX5_die_6 rfl (lv_at hl 0 rfl) ?_
  refine lv_iload_n hx hb dX5_die_7 rfl (lv_at hl 2 rfl) ?_
  refine x_joinW (ls := ls) (D := D) (sa := sa) (A := A) (xa := xa) (G := mG G0 D xa σ ρ la) (P := pP σ x ∧ σ 2 (xn x) = 0) (mpc := 26) (rest := [.int (r_2), .ref (xa 20 0)]) (fun H locs r_26 hW h_26 => ?_) (fun J26 => ?_)
  ·
    refine lv_iconst (v := nI (1)) hx hb dX5_die_26 (by decide +kernel) ?_
    refine xv_i (As := [.int (r_2), .int (r_26), .int (nI (1))]) (rest := []) ⟨hx, hb, hml, hown, hts⟩ (c_X5_goes l D sa xa G0 σ ρ la hB hr_2 h_26 (tv.one trivial)) (cwV 3 hts gX5_die_X5_goes rfl rfl rfl (by decide +kernel) ⟨Nat.le_of_ble_eq_true rfl, Nat.le_of_ble_eq_true rfl⟩) hW (mG_obj _ _ _ _ _ _) rfl rfl rfl rfl hl.1 (Nat.le_of_ble_eq_true rfl) dX5_die_27 ⟨Nat.le_of_ble_eq_true rfl, Nat.le_of_ble_eq_true rfl⟩ (fun r_27 xa1 G1 H locs hp hW => ?_)
    obtain ⟨la1, hu, hr_27, hk⟩ := hp
    cases hu
    refine lv_if_eq (tgt := 40) hx hb dX5_die_30 (by decide) (fun c_30 => ?_) (fun c_30 => ?_)
    · -- eq taken
      have c_30 := hr_27.f c_30
      exact xe_v hx hb hr hlocks hW ⟨la1, hk.to Iff.rfl (fun h => ⟨And.right, fun h2 => ⟨h, h2⟩⟩) (fun _ _ => Iff.rfl), by unfold t_die; rw [if_neg c_30]⟩ (Nat.le_refl _) (Nat.le_refl _) dX5_die_40
    · -- eq not
      have c_30 := hr_27.t c_30
      subst c_30
      obtain ⟨hz1, hz2, hz3⟩ := hk.zero
      have hu_i := hz1
      unfold pP at hu_i
      obtain ⟨i, hi, rfl⟩ := x_nat (n := σ 5 0) (x := x) (by omega) (by omega)
      refine lv_aload_n hx hb dX5_die_33 rfl (lv_at hl 0 rfl) ?_
      refine m_get hx hb hts hin5 hown hW 2 (by decide) rfl (hts (.fieldLink RX5 17 "RestitutoryModel" "dead" "[Z") (by decide +kernel)) (v := .ref (xa 20 2)) rfl dX5_die_34 ?_
      refine lv_iload_n hx hb dX5_die_37 rfl (lv_at hl 1 rfl) ?_
      refine lv_iconst (v := nI (1)) hx hb dX5_die_38 (by decide +kernel) ?_
      refine m_zst hx hb hW 2 12 (by unfold mArr; decide) rfl rfl (i) (by omega) (v := 1) (by omega) dX5_die_39 (fun H locs hW => ?_)
      exact xe_v hx hb hr hlocks hW ⟨0, hk.to Iff.rfl (fun h => ⟨And.right, fun h2 => ⟨h, h2⟩⟩) (fun _ _ => Iff.rfl), by unfold t_die; simp only [if_true, xn_nI (n := i) (by omega)]⟩ (Nat.le_refl _) (Nat.le_refl _) dX5_die_40
  ·
    refine lv_iload_n hx hb dX5_die_8 rfl (lv_at hl 2 rfl) ?_
    refine lv_if_eq (tgt := 25) hx hb dX5_die_9 (by decide) (fun c_9 => ?_) (fun c_9 => ?_)
    · -- eq taken
      have c_9 := hr_2.f c_9
      refine lv_iconst (v := nI (0)) hx hb dX5_die_25 (by decide +kernel) ?_
      exact J26 _ _ _ hW (tv.zero (by first | exact fun h => c_9 h.1 | exact fun h => c_18 (by have h1 := h.2; rw [xn_nI (by omega)] at h1; exact h1)))
    · -- eq not
      have c_9 := hr_2.t c_9
      have hu_i := c_9
      unfold pP at hu_i
      obtain ⟨i, hi, rfl⟩ := x_nat (n := σ 5 0) (x := x) (by omega) (by omega)
      refine lv_aload_n hx hb dX5_die_12 rfl (lv_at hl 0 rfl) ?_
      refine m_get hx hb hts hin5 hown hW 2 (by decide) rfl (hts (.fieldLink RX5 17 "RestitutoryModel" "dead" "[Z") (by decide +kernel)) (v := .ref (xa 20 2)) rfl dX5_die_13 ?_
      refine lv_iload_n hx hb dX5_die_16 rfl (lv_at hl 1 rfl) ?_
      refine m_zld hx hb hW 2 12 (by unfold mArr; decide) rfl rfl (i) (by omega) (v := σ 2 i) rfl dX5_die_17 ?_
      have b_17 := hB 2 (i)
      refine lv_if_ne (tgt := 25) hx hb dX5_die_18 (by decide) (fun c_18 => ?_) (fun c_18 => ?_)
      · -- ne taken
        have c_18 : ¬ (σ 2 i = 0) := fun h_ => c_18 ((x_eqZ (a := σ 2 i) (by omega)).mpr h_)
        refine lv_iconst (v := nI (0)) hx hb dX5_die_25 (by decide +kernel) ?_
        exact J26 _ _ _ hW (tv.zero (by first | exact fun h => c_9 h.1 | exact fun h => c_18 (by have h1 := h.2; rw [xn_nI (by omega)] at h1; exact h1)))
      · -- ne not
        have c_18 := (x_eqZ (a := σ 2 i) (by omega)).mp c_18
        refine lv_iconst (v := nI (1)) hx hb dX5_die_21 (by decide +kernel) ?_
        refine lv_goto (tgt := 26) hx hb dX5_die_22 (by decide) ?_
        exact J26 _ _ _ hW (tv.one (⟨c_9, by rw [xn_nI (by omega)]; exact c_18⟩))

set_option maxHeartbeats 4000000 in
set_option maxRecDepth 100000 in
theorem c_X5_heir (l : Launch) (D : xD) (sa : Nat → Nat) (xa : xA) (G0 : xG) (σ : Sg) (ρ : Nat → Nat) (la : Nat) (hg : Gd σ) (x y : Int32) : xCi l yX5_heir wsX5_heir ({ frames := 16, cells := 0, slots := 0, locals := 500 } : Room) D sa xa (mG G0 D xa σ ρ la) [.ref (xa 20 0), .int x, .int y] (fun r u => ∃ k, gk (pP σ x ∧ pP σ y) (¬ x.toInt = y.toInt) (¬ hH σ (xn x) (xn y)) k ∧ u = (xa, mG G0 D xa (t_heir σ x y k) ρ k) ∧ (k = 0 → r.toInt = ((σ 4 (xn x) + 1 : Nat) : Int))) 0 0 := by
  have hB := hg.1
  have h5 := hg.2.1.1
  have h7 := hg.2.1.2.1
  have h12 := hg.2.1.2.2.1
  have hy0 := hg.2.1.2.2.2.1
  have hy1 := hg.2.1.2.2.2.2
  have hm := hg.hm
  have hs8 := hg.hs8
  intro sz
  refine Met.ofW (cc := cX5_heir) (maxL := 4) (ret := (some .int)) (by decide +kernel) rfl ?_
  intro p e s m args below meth c s₁ B hml hv
  obtain ⟨rfl, hsz, hv2⟩ := hv
  subst hsz
  have hx := B.exec
  have hb := B.bytes
  have hr := B.returns
  have hts := atoms_spec (ws := wsX5_heir) B.pre
  have hown : s.vm.findClass RX5 = some m.cls := findClass_of_methodNamed B.named
  have hlocks := B.notSynchronized
  have hin5 : ∀ w ∈ wsX50, w ∈ wsX5_heir := by decide +kernel
  have hW := xW.start (s := s) ⟨rfl, hv2⟩
  clear hv2
  generalize xAw xa (mG G0 D xa σ ρ la) s.heap.size = A at hW ⊢
  have hl := lv_entry ([.ref (xa 20 0), .int (x), .int (y)]) (n := 4) (Nat.le_of_ble_eq_true rfl)
  rw [lg_entry_eq]
  generalize (lg_sl ([.ref (xa 20 0), .int (x), .int (y)]) ++ List.replicate (4 - (lg_sl ([.ref (xa 20 0), .int (x), .int (y)])).length) Slot.unset).toArray = ls at hl ⊢
  have hl : lv_has ls 4 [(0, .ref (xa 20 0)), (1, .int (x)), (2, .int (y))] := hl
  refine x_joinW (ls := ls) (D := D) (sa := sa) (A := A) (xa := xa) (G := mG G0 D xa σ ρ la) (P := pP σ x ∧ pP σ y) (mpc := 21) (rest := []) (fun H locs r_21 hW h_21 => ?_) (fun J21 => ?_)
  ·
    refine lv_istore_n (lv' := [(3, .int (r_21)), (0, .ref (xa 20 0)), (1, .int (x)), (2, .int (y))]) hx hb dX5_heir_21 rfl hl (by decide) rfl (fun ls hl => ?_)
    have hl : lv_has ls 4 [(0, .ref (xa 20 0)), (1, .int (x)), (2, .int (y)), (3, .int (r_21))] := lv_sub hl [1, 2, 3, 0] rfl
    refine lv_aload_n hx hb dX5_heir_22 rfl (lv_at hl 0 rfl) ?_
    refine lv_iload_n hx hb dX5_heir_23 rfl (lv_at hl 3 rfl) ?_
    refine x_joinW (ls := ls) (D := D) (sa := sa) (A := A) (xa := xa) (G := mG G0 D xa σ ρ la) (P := ¬ x.toInt = y.toInt) (mpc := 34) (rest := [.int (r_21), .ref (xa 20 0)]) (fun H locs r_34 hW h_34 => ?_) (fun J34 => ?_)
    ·
      refine x_joinW (ls := ls) (D := D) (sa := sa) (A := A) (xa := xa) (G := mG G0 D xa σ ρ la) (P := (pP σ x ∧ pP σ y) ∧ ¬ hH σ (xn x) (xn y)) (mpc := 52) (rest := [.int (r_34), .int (r_21), .ref (xa 20 0)]) (fun H locs r_52 hW h_52 => ?_) (fun J52 => ?_)
      ·
        refine xv_i (As := [.int (r_21), .int (r_34), .int (r_52)]) (rest := []) ⟨hx, hb, hml, hown, hts⟩ (c_X5_goes l D sa xa G0 σ ρ la hB h_21 h_34 h_52) (cwV 3 hts gX5_heir_X5_goes rfl rfl rfl (by decide +kernel) ⟨Nat.le_of_ble_eq_true rfl, Nat.le_of_ble_eq_true rfl⟩) hW (mG_obj _ _ _ _ _ _) rfl rfl rfl rfl hl.1 (Nat.le_of_ble_eq_true rfl) dX5_heir_52 ⟨Nat.le_of_ble_eq_true rfl, Nat.le_of_ble_eq_true rfl⟩ (fun r_52 xa1 G1 H locs hp hW => ?_)
        obtain ⟨la1, hu, hr_52, hk⟩ := hp
        cases hu
        refine lv_if_ne (tgt := 60) hx hb dX5_heir_55 (by decide) (fun c_55 => ?_) (fun c_55 => ?_)
        · -- ne taken
          have c_55 := hr_52.t c_55
          subst c_55
          obtain ⟨hz1, hz2, hz3⟩ := hk.zero
          have hu_i := hz1.1
          unfold pP at hu_i
          obtain ⟨i, hi, rfl⟩ := x_nat (n := σ 5 0) (x := x) (by omega) (by omega)
          have hu_h := hz1.2
          unfold pP at hu_h
          obtain ⟨h, hh, rfl⟩ := x_nat (n := σ 5 0) (x := y) (by omega) (by omega)
          have hmi := hm i
          refine lv_aload_n hx hb dX5_heir_60 rfl (lv_at hl 0 rfl) ?_
          refine m_get hx hb hts hin5 hown hW 3 (by decide) rfl (hts (.fieldLink RX5 21 "RestitutoryModel" "heirs" "[I") (by decide +kernel)) (v := .ref (xa 20 3)) rfl dX5_heir_61 ?_
          refine lv_bipush (v := nI (12)) hx hb dX5_heir_64 (by decide +kernel) ?_
          refine lv_iload_n hx hb dX5_heir_66 rfl (lv_at hl 1 rfl) ?_
          refine lv_imul hx hb dX5_heir_67 ?_
          rw [pk_mul]
          refine lv_aload_n hx hb dX5_heir_68 rfl (lv_at hl 0 rfl) ?_
          refine m_get hx hb hts hin5 hown hW 4 (by decide) rfl (hts (.fieldLink RX5 24 "RestitutoryModel" "heirMany" "[I") (by decide +kernel)) (v := .ref (xa 20 4)) rfl dX5_heir_69 ?_
          refine lv_iload_n hx hb dX5_heir_72 rfl (lv_at hl 1 rfl) ?_
          refine m_ild hx hb hW 4 12 (by unfold mArr; decide) rfl rfl (i) (by omega) (v := σ 4 i) rfl dX5_heir_73 ?_
          have b_73 := hB 4 (i)
          refine lv_iadd hx hb dX5_heir_74 ?_
          rw [nI_add]
          refine lv_iload_n hx hb dX5_heir_75 rfl (lv_at hl 2 rfl) ?_
          refine m_ist hx hb hW 3 144 (by unfold mArr; decide) rfl rfl ((12 * i) + (σ 4 i)) (by omega) (v := h) dX5_heir_76 (fun H locs hW => ?_)
          refine lv_aload_n hx hb dX5_heir_77 rfl (lv_at hl 0 rfl) ?_
          refine m_get hx hb hts hin5 hown hW 4 (by decide) rfl (hts (.fieldLink RX5 24 "RestitutoryModel" "heirMany" "[I") (by decide +kernel)) (v := .ref (xa 20 4)) rfl dX5_heir_78 ?_
          refine lv_iload_n hx hb dX5_heir_81 rfl (lv_at hl 1 rfl) ?_
          refine lv_dup2_11 hx hb dX5_heir_82 rfl rfl ?_
          refine m_ild hx hb hW 4 12 (by unfold mArr; decide) rfl rfl (i) (by omega) (v := σ 4 i) (sup_ne _ (by omega)) dX5_heir_83 ?_
          have b_83 := hB 4 (i)
          refine lv_iconst (v := nI (1)) hx hb dX5_heir_84 (by decide +kernel) ?_
          refine lv_iadd hx hb dX5_heir_85 ?_
          rw [nI_add]
          refine m_ist hx hb hW 4 12 (by unfold mArr; decide) rfl rfl (i) (by omega) (v := (σ 4 i) + 1) dX5_heir_86 (fun H locs hW => ?_)
          refine lv_aload_n hx hb dX5_heir_87 rfl (lv_at hl 0 rfl) ?_
          refine m_get hx hb hts hin5 hown hW 4 (by decide) rfl (hts (.fieldLink RX5 24 "RestitutoryModel" "heirMany" "[I") (by decide +kernel)) (v := .ref (xa 20 4)) rfl dX5_heir_88 ?_
          refine lv_iload_n hx hb dX5_heir_91 rfl (lv_at hl 1 rfl) ?_
          refine m_ild hx hb hW 4 12 (by unfold mArr; decide) rfl rfl (i) (by omega) (v := (σ 4 i) + 1) (sup_self _ _ _ _) dX5_heir_92 ?_
          exact xe_i hx hb hr rfl hlocks hW ⟨0, hk.to Iff.rfl (fun _ => Iff.rfl) (fun h _ => ⟨And.right, fun h2 => ⟨h, h2⟩⟩), by unfold t_heir; simp only [if_true, xn_nI (n := i) (by omega), xn_nI (n := h) (by omega)], fun _ => by simp only [xn_nI (n := i) (by omega)]; exact nI_toInt (by omega)⟩ (Nat.le_refl _) (Nat.le_refl _) dX5_heir_93
        · -- ne not
          have c_55 := hr_52.f c_55
          refine lv_iconst (v := nI (0)) hx hb dX5_heir_58 (by decide +kernel) ?_
          exact xe_i hx hb hr rfl hlocks hW ⟨la1, hk.to Iff.rfl (fun _ => Iff.rfl) (fun h _ => ⟨And.right, fun h2 => ⟨h, h2⟩⟩), by unfold t_heir; rw [if_neg c_55], fun h => absurd h c_55⟩ (Nat.le_refl _) (Nat.le_refl _) dX5_heir_59
      ·
        refine lv_iload_n hx hb dX5_heir_34 rfl (lv_at hl 3 rfl) ?_
        refine lv_if_eq (tgt := 51) hx hb dX5_heir_35 (by decide) (fun c_35 => ?_) (fun c_35 => ?_)
        · -- eq taken
          have c_35 := h_21.f c_35
          refine lv_iconst (v := nI (0)) hx hb dX5_heir_51 (by decide +kernel) ?_
          exact J52 _ _ _ hW (tv.zero (by first | exact fun h => c_35 h.1 | exact fun h => h.2 (by rw [xn_nI (by omega), xn_nI (by omega)]; exact c_44)))
        · -- eq not
          have c_35 := h_21.t c_35
          have hu_i := c_35.1
          unfold pP at hu_i
          obtain ⟨i, hi, rfl⟩ := x_nat (n := σ 5 0) (x := x) (by omega) (by omega)
          have hu_h := c_35.2
          unfold pP at hu_h
          obtain ⟨h, hh, rfl⟩ := x_nat (n := σ 5 0) (x := y) (by omega) (by omega)
          refine lv_aload_n hx hb dX5_heir_38 rfl (lv_at hl 0 rfl) ?_
          refine lv_iload_n hx hb dX5_heir_39 rfl (lv_at hl 1 rfl) ?_
          refine lv_iload_n hx hb dX5_heir_40 rfl (lv_at hl 2 rfl) ?_
          refine xv_i (As := [.int (nI (i)), .int (nI (h))]) (rest := [.int (r_34), .int (r_21), .ref (xa 20 0)]) ⟨hx, hb, hml, hown, hts⟩ (c_X5_isHeir l D sa xa G0 σ ρ la hB i h (by omega) (by omega) (by have h1 := hm i; omega)) (cwV 2 hts gX5_heir_X5_isHeir rfl rfl rfl (by decide +kernel) ⟨Nat.le_of_ble_eq_true rfl, Nat.le_of_ble_eq_true rfl⟩) hW (mG_obj _ _ _ _ _ _) rfl rfl rfl rfl hl.1 (Nat.le_of_ble_eq_true rfl) dX5_heir_41 ⟨Nat.le_of_ble_eq_true rfl, Nat.le_of_ble_eq_true rfl⟩ (fun r_41 xa1 G1 H locs hp hW => ?_)
          obtain ⟨hu, hr_41⟩ := hp
          cases hu
          refine lv_if_ne (tgt := 51) hx hb dX5_heir_44 (by decide) (fun c_44 => ?_) (fun c_44 => ?_)
          · -- ne taken
            have c_44 := hr_41.t c_44
            refine lv_iconst (v := nI (0)) hx hb dX5_heir_51 (by decide +kernel) ?_
            exact J52 _ _ _ hW (tv.zero (by first | exact fun h => c_35 h.1 | exact fun h => h.2 (by rw [xn_nI (by omega), xn_nI (by omega)]; exact c_44)))
          · -- ne not
            have c_44 := hr_41.f c_44
            refine lv_iconst (v := nI (1)) hx hb dX5_heir_47 (by decide +kernel) ?_
            refine lv_goto (tgt := 52) hx hb dX5_heir_48 (by decide) ?_
            exact J52 _ _ _ hW (tv.one (⟨c_35, by rw [xn_nI (by omega), xn_nI (by omega)]; exact c_44⟩))
    ·
      refine lv_iload_n hx hb dX5_heir_24 rfl (lv_at hl 1 rfl) ?_
      refine lv_iload_n hx hb dX5_heir_25 rfl (lv_at hl 2 rfl) ?_
      refine lv_icmp_eq (tgt := 33) hx hb dX5_heir_26 (by decide) (fun c_26 => ?_) (fun c_26 => ?_)
      · -- eq taken
        have c_26t := congrArg Int32.toInt c_26
        refine lv_iconst (v := nI (0)) hx hb dX5_heir_33 (by decide +kernel) ?_
        exact J34 _ _ _ hW (tv.zero (fun h => h c_26t))
      · -- eq not
        have c_26t : ¬ (x).toInt = (y).toInt := fun h => c_26 (Int32.toInt_inj.mp h)
        refine lv_iconst (v := nI (1)) hx hb dX5_heir_29 (by decide +kernel) ?_
        refine lv_goto (tgt := 34) hx hb dX5_heir_30 (by decide) ?_
        exact J34 _ _ _ hW (tv.one (c_26t))
  ·
    refine lv_aload_n hx hb dX5_heir_0 rfl (lv_at hl 0 rfl) ?_
    refine lv_iload_n hx hb dX5_heir_1 rfl (lv_at hl 1 rfl) ?_
    refine xv_i (As := [.int (x)]) (rest := []) ⟨hx, hb, hml, hown, hts⟩ (c_X5_isPerson l D sa xa G0 σ ρ la hB x) (cwV 1 hts gX5_heir_X5_isPerson rfl rfl rfl (by decide +kernel) ⟨Nat.le_of_ble_eq_true rfl, Nat.le_of_ble_eq_true rfl⟩) hW (mG_obj _ _ _ _ _ _) rfl rfl rfl rfl hl.1 (Nat.le_of_ble_eq_true rfl) dX5_heir_2 ⟨Nat.le_of_ble_eq_true rfl, Nat.le_of_ble_eq_true rfl⟩ (fun r_2 xa1 G1 H locs hp hW => ?_)
    obtain ⟨hu, hr_2⟩ := hp
    cases hu
    refine lv_if_eq (tgt := 20) hx hb dX5_heir_5 (by decide) (fun c_5 => ?_) (fun c_5 => ?_)
    · -- eq taken
      have c_5 := hr_2.f c_5
      refine lv_iconst (v := nI (0)) hx hb dX5_heir_20 (by decide +kernel) ?_
      exact J21 _ _ _ hW (tv.zero (by first | exact fun h => c_5 h.1 | exact fun h => c_13 h.2))
    · -- eq not
      have c_5 := hr_2.t c_5
      refine lv_aload_n hx hb dX5_heir_8 rfl (lv_at hl 0 rfl) ?_
      refine lv_iload_n hx hb dX5_heir_9 rfl (lv_at hl 2 rfl) ?_
      refine xv_i (As := [.int (y)]) (rest := []) ⟨hx, hb, hml, hown, hts⟩ (c_X5_isPerson l D sa xa G0 σ ρ la hB y) (cwV 1 hts gX5_heir_X5_isPerson rfl rfl rfl (by decide +kernel) ⟨Nat.le_of_ble_eq_true rfl, Nat.le_of_ble_eq_true rfl⟩) hW (mG_obj _ _ _ _ _ _) rfl rfl rfl rfl hl.1 (Nat.le_of_ble_eq_true rfl) dX5_heir_10 ⟨Nat.le_of_ble_eq_true rfl, Nat.le_of_ble_eq_true rfl⟩ (fun r_10 xa1 G1 H locs hp hW => ?_)
      obtain ⟨hu, hr_10⟩ := hp
      cases hu
      refine lv_if_eq (tgt := 20) hx hb dX5_heir_13 (by decide) (fun c_13 => ?_) (fun c_13 => ?_)
      · -- eq taken
        have c_13 := hr_10.f c_13
        refine lv_iconst (v := nI (0)) hx hb dX5_heir_20 (by decide +kernel) ?_
        exact J21 _ _ _ hW (tv.zero (by first | exact fun h => c_5 h.1 | exact fun h => c_13 h.2))
      · -- eq not
        have c_13 := hr_10.t c_13
        refine lv_iconst (v := nI (1)) hx hb dX5_heir_16 (by decide +kernel) ?_
        refine lv_goto (tgt := 21) hx hb dX5_heir_17 (by decide) ?_
        exact J21 _ _ _ hW (tv.one (⟨c_5, c_13⟩))

set_option maxHeartbeats 4000000 in
set_option maxRecDepth 100000 in
theorem c_X5_persecution (l : Launch) (D : xD) (sa : Nat → Nat) (xa : xA) (G0 : xG) (σ : Sg) (ρ : Nat → Nat) (la : Nat) (hg : Gd σ) (g a f t : Int32) : xCi l yX5_persecution wsX5_persecution ({ frames := 16, cells := 0, slots := 0, locals := 500 } : Room) D sa xa (mG G0 D xa σ ρ la) [.ref (xa 20 0), .int g, .int a, .int f, .int t] (fun r u => ∃ k, gk (rg g 0 3 ∧ pL a) (rg f 1900 2100 ∧ f.toInt ≤ t.toInt ∧ t.toInt ≤ 2100) (σ 7 0 < 20) k ∧ u = (xa, mG G0 D xa (t_persecution σ g a f t k) ρ k) ∧ (k = 0 → r.toInt = ((σ 7 0 + 1 : Nat) : Int))) 0 0 := by
  have hB := hg.1
  have h5 := hg.2.1.1
  have h7 := hg.2.1.2.1
  have h12 := hg.2.1.2.2.1
  have hy0 := hg.2.1.2.2.2.1
  have hy1 := hg.2.1.2.2.2.2
  have hm := hg.hm
  have hs8 := hg.hs8
  intro sz
  refine Met.ofW (cc := cX5_persecution) (maxL := 7) (ret := (some .int)) (by decide +kernel) rfl ?_
  intro p e s m args below meth c s₁ B hml hv
  obtain ⟨rfl, hsz, hv2⟩ := hv
  subst hsz
  have hx := B.exec
  have hb := B.bytes
  have hr := B.returns
  have hts := atoms_spec (ws := wsX5_persecution) B.pre
  have hown : s.vm.findClass RX5 = some m.cls := findClass_of_methodNamed B.named
  have hlocks := B.notSynchronized
  have hin5 : ∀ w ∈ wsX50, w ∈ wsX5_persecution := by decide +kernel
  have hW := xW.start (s := s) ⟨rfl, hv2⟩
  clear hv2
  generalize xAw xa (mG G0 D xa σ ρ la) s.heap.size = A at hW ⊢
  have hl := lv_entry ([.ref (xa 20 0), .int (g), .int (a), .int (f), .int (t)]) (n := 7) (Nat.le_of_ble_eq_true rfl)
  rw [lg_entry_eq]
  generalize (lg_sl ([.ref (xa 20 0), .int (g), .int (a), .int (f), .int (t)]) ++ List.replicate (7 - (lg_sl ([.ref (xa 20 0), .int (g), .int (a), .int (f), .int (t)])).length) Slot.unset).toArray = ls at hl ⊢
  have hl : lv_has ls 7 [(0, .ref (xa 20 0)), (1, .int (g)), (2, .int (a)), (3, .int (f)), (4, .int (t))] := hl
  refine x_joinW (ls := ls) (D := D) (sa := sa) (A := A) (xa := xa) (G := mG G0 D xa σ ρ la) (P := rg g 0 3 ∧ pL a) (mpc := 21) (rest := []) (fun H locs r_21 hW h_21 => ?_) (fun J21 => ?_)
  ·
    refine lv_istore (lv' := [(5, .int (r_21)), (0, .ref (xa 20 0)), (1, .int (g)), (2, .int (a)), (3, .int (f)), (4, .int (t))]) hx hb dX5_persecution_21 hl (by decide) rfl (fun ls hl => ?_)
    have hl : lv_has ls 7 [(0, .ref (xa 20 0)), (1, .int (g)), (2, .int (a)), (3, .int (f)), (4, .int (t)), (5, .int (r_21))] := lv_sub hl [1, 2, 3, 4, 5, 0] rfl
    refine lv_aload_n hx hb dX5_persecution_23 rfl (lv_at hl 0 rfl) ?_
    refine lv_iload hx hb dX5_persecution_24 (lv_at hl 5 rfl) ?_
    refine x_joinW (ls := ls) (D := D) (sa := sa) (A := A) (xa := xa) (G := mG G0 D xa σ ρ la) (P := rg f 1900 2100 ∧ f.toInt ≤ t.toInt ∧ t.toInt ≤ 2100) (mpc := 56) (rest := [.int (r_21), .ref (xa 20 0)]) (fun H locs r_56 hW h_56 => ?_) (fun J56 => ?_)
    ·
      refine x_joinW (ls := ls) (D := D) (sa := sa) (A := A) (xa := xa) (G := mG G0 D xa σ ρ la) (P := σ 7 0 < 20) (mpc := 70) (rest := [.int (r_56), .int (r_21), .ref (xa 20 0)]) (fun H locs r_70 hW h_70 => ?_) (fun J70 => ?_)
      ·
        refine xv_i (As := [.int (r_21), .int (r_56), .int (r_70)]) (rest := []) ⟨hx, hb, hml, hown, hts⟩ (c_X5_goes l D sa xa G0 σ ρ la hB h_21 h_56 h_70) (cwV 3 hts gX5_persecution_X5_goes rfl rfl rfl (by decide +kernel) ⟨Nat.le_of_ble_eq_true rfl, Nat.le_of_ble_eq_true rfl⟩) hW (mG_obj _ _ _ _ _ _) rfl rfl rfl rfl hl.1 (Nat.le_of_ble_eq_true rfl) dX5_persecution_70 ⟨Nat.le_of_ble_eq_true rfl, Nat.le_of_ble_eq_true rfl⟩ (fun r_70 xa1 G1 H locs hp hW => ?_)
        obtain ⟨la1, hu, hr_70, hk⟩ := hp
        cases hu
        refine lv_if_ne (tgt := 78) hx hb dX5_persecution_73 (by decide) (fun c_73 => ?_) (fun c_73 => ?_)
        · -- ne taken
          have c_73 := hr_70.t c_73
          subst c_73
          obtain ⟨hz1, hz2, hz3⟩ := hk.zero
          have hu_gi := hz1.1
          unfold rg at hu_gi
          obtain ⟨gi, hgi, rfl⟩ := x_nat (n := 4) (x := g) (by omega) (by omega)
          have hu_ai := hz1.2
          unfold pL at hu_ai
          obtain ⟨ai, hai, rfl⟩ := x_nat (n := 5) (x := a) (by omega) (by omega)
          have hu_fi := hz2.1
          unfold rg at hu_fi
          obtain ⟨fi, hfi, rfl⟩ := x_nat (n := 2101) (x := f) (by omega) (by omega)
          have hzt := hz2.2
          rw [nI_toInt (by omega)] at hzt
          have hu_ti := (show rg t 0 2100 from ⟨by omega, by omega⟩)
          unfold rg at hu_ti
          obtain ⟨ti, hti, rfl⟩ := x_nat (n := 2101) (x := t) (by omega) (by omega)
          refine lv_iconst (v := nI (4)) hx hb dX5_persecution_78 (by decide +kernel) ?_
          refine lv_aload_n hx hb dX5_persecution_79 rfl (lv_at hl 0 rfl) ?_
          refine m_get hx hb hts hin5 hown hW 7 (by decide) rfl (hts (.fieldLink RX5 94 "RestitutoryModel" "manyPersecutions" "I") (by decide +kernel)) (v := .int (nI (σ 7 0))) rfl dX5_persecution_80 ?_
          have b_80 := hB 7 0
          refine lv_imul hx hb dX5_persecution_83 ?_
          rw [pk_mul]
          refine lv_istore (lv' := [(6, .int (nI (4 * (σ 7 0)))), (0, .ref (xa 20 0)), (1, .int (nI (gi))), (2, .int (nI (ai))), (3, .int (nI (fi))), (4, .int (nI (ti))), (5, .int (r_21))]) hx hb dX5_persecution_84 hl (by decide) rfl (fun ls hl => ?_)
          have hl : lv_has ls 7 [(0, .ref (xa 20 0)), (1, .int (nI (gi))), (2, .int (nI (ai))), (3, .int (nI (fi))), (4, .int (nI (ti))), (5, .int (r_21)), (6, .int (nI (4 * (σ 7 0))))] := lv_sub hl [1, 2, 3, 4, 5, 6, 0] rfl
          refine lv_aload_n hx hb dX5_persecution_86 rfl (lv_at hl 0 rfl) ?_
          refine m_get hx hb hts hin5 hown hW 6 (by decide) rfl (hts (.fieldLink RX5 27 "RestitutoryModel" "persecutions" "[I") (by decide +kernel)) (v := .ref (xa 20 6)) rfl dX5_persecution_87 ?_
          refine lv_iload hx hb dX5_persecution_90 (lv_at hl 6 rfl) ?_
          refine lv_iload_n hx hb dX5_persecution_92 rfl (lv_at hl 1 rfl) ?_
          refine m_ist hx hb hW 6 80 (by unfold mArr; decide) rfl rfl (4 * (σ 7 0)) (by omega) (v := gi) dX5_persecution_93 (fun H locs hW => ?_)
          refine lv_aload_n hx hb dX5_persecution_94 rfl (lv_at hl 0 rfl) ?_
          refine m_get hx hb hts hin5 hown hW 6 (by decide) rfl (hts (.fieldLink RX5 27 "RestitutoryModel" "persecutions" "[I") (by decide +kernel)) (v := .ref (xa 20 6)) rfl dX5_persecution_95 ?_
          refine lv_iload hx hb dX5_persecution_98 (lv_at hl 6 rfl) ?_
          refine lv_iconst (v := nI (1)) hx hb dX5_persecution_100 (by decide +kernel) ?_
          refine lv_iadd hx hb dX5_persecution_101 ?_
          rw [nI_add]
          refine lv_iload_n hx hb dX5_persecution_102 rfl (lv_at hl 2 rfl) ?_
          refine m_ist hx hb hW 6 80 (by unfold mArr; decide) rfl rfl ((4 * (σ 7 0)) + 1) (by omega) (v := ai) dX5_persecution_103 (fun H locs hW => ?_)
          refine lv_aload_n hx hb dX5_persecution_104 rfl (lv_at hl 0 rfl) ?_
          refine m_get hx hb hts hin5 hown hW 6 (by decide) rfl (hts (.fieldLink RX5 27 "RestitutoryModel" "persecutions" "[I") (by decide +kernel)) (v := .ref (xa 20 6)) rfl dX5_persecution_105 ?_
          refine lv_iload hx hb dX5_persecution_108 (lv_at hl 6 rfl) ?_
          refine lv_iconst (v := nI (2)) hx hb dX5_persecution_110 (by decide +kernel) ?_
          refine lv_iadd hx hb dX5_persecution_111 ?_
          rw [nI_add]
          refine lv_iload_n hx hb dX5_persecution_112 rfl (lv_at hl 3 rfl) ?_
          refine m_ist hx hb hW 6 80 (by unfold mArr; decide) rfl rfl ((4 * (σ 7 0)) + 2) (by omega) (v := fi) dX5_persecution_113 (fun H locs hW => ?_)
          refine lv_aload_n hx hb dX5_persecution_114 rfl (lv_at hl 0 rfl) ?_
          refine m_get hx hb hts hin5 hown hW 6 (by decide) rfl (hts (.fieldLink RX5 27 "RestitutoryModel" "persecutions" "[I") (by decide +kernel)) (v := .ref (xa 20 6)) rfl dX5_persecution_115 ?_
          refine lv_iload hx hb dX5_persecution_118 (lv_at hl 6 rfl) ?_
          refine lv_iconst (v := nI (3)) hx hb dX5_persecution_120 (by decide +kernel) ?_
          refine lv_iadd hx hb dX5_persecution_121 ?_
          rw [nI_add]
          refine lv_iload hx hb dX5_persecution_122 (lv_at hl 4 rfl) ?_
          refine m_ist hx hb hW 6 80 (by unfold mArr; decide) rfl rfl ((4 * (σ 7 0)) + 3) (by omega) (v := ti) dX5_persecution_124 (fun H locs hW => ?_)
          refine lv_aload_n hx hb dX5_persecution_125 rfl (lv_at hl 0 rfl) ?_
          refine lv_dup hx hb dX5_persecution_126 rfl ?_
          refine m_get hx hb hts hin5 hown hW 7 (by decide) rfl (hts (.fieldLink RX5 94 "RestitutoryModel" "manyPersecutions" "I") (by decide +kernel)) (v := .int (nI (σ 7 0))) rfl dX5_persecution_127 ?_
          have b_127 := hB 7 0
          refine lv_iconst (v := nI (1)) hx hb dX5_persecution_130 (by decide +kernel) ?_
          refine lv_iadd hx hb dX5_persecution_131 ?_
          rw [nI_add]
          refine m_put hx hb hts hin5 hown hW 7 (by decide) (hts (.fieldLink RX5 94 "RestitutoryModel" "manyPersecutions" "I") (by decide +kernel)) (v := (σ 7 0) + 1) dX5_persecution_132 (fun H locs hW => ?_)
          refine lv_aload_n hx hb dX5_persecution_135 rfl (lv_at hl 0 rfl) ?_
          refine m_get hx hb hts hin5 hown hW 7 (by decide) rfl (hts (.fieldLink RX5 94 "RestitutoryModel" "manyPersecutions" "I") (by decide +kernel)) (v := .int (nI ((σ 7 0) + 1))) rfl dX5_persecution_136 ?_
          exact xe_i hx hb hr rfl hlocks hW ⟨0, hk, by unfold t_persecution; simp only [if_true, xn_nI (n := gi) (by omega), xn_nI (n := ai) (by omega), xn_nI (n := fi) (by omega), xn_nI (n := ti) (by omega)], fun _ => nI_toInt (by omega)⟩ (Nat.le_refl _) (Nat.le_refl _) dX5_persecution_139
        · -- ne not
          have c_73 := hr_70.f c_73
          refine lv_iconst (v := nI (0)) hx hb dX5_persecution_76 (by decide +kernel) ?_
          exact xe_i hx hb hr rfl hlocks hW ⟨la1, hk, by unfold t_persecution; rw [if_neg c_73], fun h => absurd h c_73⟩ (Nat.le_refl _) (Nat.le_refl _) dX5_persecution_77
      ·
        refine lv_aload_n hx hb dX5_persecution_56 rfl (lv_at hl 0 rfl) ?_
        refine m_get hx hb hts hin5 hown hW 7 (by decide) rfl (hts (.fieldLink RX5 94 "RestitutoryModel" "manyPersecutions" "I") (by decide +kernel)) (v := .int (nI (σ 7 0))) rfl dX5_persecution_57 ?_
        have b_57 := hB 7 0
        refine lv_bipush (v := nI (20)) hx hb dX5_persecution_60 (by decide +kernel) ?_
        refine lv_icmp_ge (tgt := 69) hx hb dX5_persecution_62 (by decide) (fun c_62 => ?_) (fun c_62 => ?_)
        · -- ge taken
          have c_62 := Int32.le_iff_toInt_le.mp c_62
          rw [nI_toInt (n := σ 7 0) (by omega)] at c_62
          rw [nI_toInt (n := 20) (by omega)] at c_62
          refine lv_iconst (v := nI (0)) hx hb dX5_persecution_69 (by decide +kernel) ?_
          exact J70 _ _ _ hW (tv.zero (by omega))
        · -- ge not
          have c_62 : ¬ ((nI (20)).toInt ≤ (nI (σ 7 0)).toInt) := fun h => c_62 (Int32.le_iff_toInt_le.mpr h)
          rw [nI_toInt (n := σ 7 0) (by omega)] at c_62
          rw [nI_toInt (n := 20) (by omega)] at c_62
          refine lv_iconst (v := nI (1)) hx hb dX5_persecution_65 (by decide +kernel) ?_
          refine lv_goto (tgt := 70) hx hb dX5_persecution_66 (by decide) ?_
          exact J70 _ _ _ hW (tv.one (by omega))
    ·
      refine lv_iload_n hx hb dX5_persecution_26 rfl (lv_at hl 3 rfl) ?_
      refine lv_sipush (v := nI (1900)) hx hb dX5_persecution_27 (by decide +kernel) ?_
      refine lv_sipush (v := nI (2100)) hx hb dX5_persecution_30 (by decide +kernel) ?_
      refine xs_i (As := [.int (f), .int (nI (1900)), .int (nI (2100))]) (rest := [.int (r_21), .ref (xa 20 0)]) ⟨hx, hb, hml, hown, hts⟩ (c_X5_in l D sa xa (mG G0 D xa σ ρ la) (f) (nI (1900)) (nI (2100))) (va_cwS 3 hts gX5_persecution_X5_in rfl rfl rfl (by decide +kernel) ⟨Nat.le_of_ble_eq_true rfl, Nat.le_of_ble_eq_true rfl⟩) hW rfl rfl hl.1 (Nat.le_of_ble_eq_true rfl) dX5_persecution_33 ⟨Nat.le_of_ble_eq_true rfl, Nat.le_of_ble_eq_true rfl⟩ (fun r_33 xa1 G1 H locs hp hW => ?_)
      obtain ⟨hu, hr_33⟩ := hp
      cases hu
      refine lv_if_eq (tgt := 55) hx hb dX5_persecution_36 (by decide) (fun c_36 => ?_) (fun c_36 => ?_)
      · -- eq taken
        have c_36 := hr_33.f c_36
        refine lv_iconst (v := nI (0)) hx hb dX5_persecution_55 (by decide +kernel) ?_
        exact J56 _ _ _ hW (tv.zero (by intro hh; unfold rg at hh; first | (refine c_36 ?_; rw [nI_toInt (by omega), nI_toInt (by omega)]; omega) | (refine c_48 ?_; rw [nI_toInt (by omega)]; omega)))
      · -- eq not
        have c_36 := hr_33.t c_36
        refine lv_iload hx hb dX5_persecution_39 (lv_at hl 4 rfl) ?_
        refine lv_iload_n hx hb dX5_persecution_41 rfl (lv_at hl 3 rfl) ?_
        refine lv_sipush (v := nI (2100)) hx hb dX5_persecution_42 (by decide +kernel) ?_
        refine xs_i (As := [.int (t), .int (f), .int (nI (2100))]) (rest := [.int (r_21), .ref (xa 20 0)]) ⟨hx, hb, hml, hown, hts⟩ (c_X5_in l D sa xa (mG G0 D xa σ ρ la) (t) (f) (nI (2100))) (va_cwS 3 hts gX5_persecution_X5_in rfl rfl rfl (by decide +kernel) ⟨Nat.le_of_ble_eq_true rfl, Nat.le_of_ble_eq_true rfl⟩) hW rfl rfl hl.1 (Nat.le_of_ble_eq_true rfl) dX5_persecution_45 ⟨Nat.le_of_ble_eq_true rfl, Nat.le_of_ble_eq_true rfl⟩ (fun r_45 xa1 G1 H locs hp hW => ?_)
        obtain ⟨hu, hr_45⟩ := hp
        cases hu
        refine lv_if_eq (tgt := 55) hx hb dX5_persecution_48 (by decide) (fun c_48 => ?_) (fun c_48 => ?_)
        · -- eq taken
          have c_48 := hr_45.f c_48
          refine lv_iconst (v := nI (0)) hx hb dX5_persecution_55 (by decide +kernel) ?_
          exact J56 _ _ _ hW (tv.zero (by intro hh; unfold rg at hh; first | (refine c_36 ?_; rw [nI_toInt (by omega), nI_toInt (by omega)]; omega) | (refine c_48 ?_; rw [nI_toInt (by omega)]; omega)))
        · -- eq not
          have c_48 := hr_45.t c_48
          refine lv_iconst (v := nI (1)) hx hb dX5_persecution_51 (by decide +kernel) ?_
          refine lv_goto (tgt := 56) hx hb dX5_persecution_52 (by decide) ?_
          exact J56 _ _ _ hW (tv.one (by have h1 := c_36; have h2 := c_48; rw [nI_toInt (by omega), nI_toInt (by omega)] at h1; rw [nI_toInt (by omega)] at h2; unfold rg; omega))
  ·
    refine lv_iload_n hx hb dX5_persecution_0 rfl (lv_at hl 1 rfl) ?_
    refine lv_iconst (v := nI (0)) hx hb dX5_persecution_1 (by decide +kernel) ?_
    refine lv_iconst (v := nI (3)) hx hb dX5_persecution_2 (by decide +kernel) ?_
    refine xs_i (As := [.int (g), .int (nI (0)), .int (nI (3))]) (rest := []) ⟨hx, hb, hml, hown, hts⟩ (c_X5_in l D sa xa (mG G0 D xa σ ρ la) (g) (nI (0)) (nI (3))) (va_cwS 3 hts gX5_persecution_X5_in rfl rfl rfl (by decide +kernel) ⟨Nat.le_of_ble_eq_true rfl, Nat.le_of_ble_eq_true rfl⟩) hW rfl rfl hl.1 (Nat.le_of_ble_eq_true rfl) dX5_persecution_3 ⟨Nat.le_of_ble_eq_true rfl, Nat.le_of_ble_eq_true rfl⟩ (fun r_3 xa1 G1 H locs hp hW => ?_)
    obtain ⟨hu, hr_3⟩ := hp
    cases hu
    refine lv_if_eq (tgt := 20) hx hb dX5_persecution_6 (by decide) (fun c_6 => ?_) (fun c_6 => ?_)
    · -- eq taken
      have c_6 := hr_3.f c_6
      refine lv_iconst (v := nI (0)) hx hb dX5_persecution_20 (by decide +kernel) ?_
      exact J21 _ _ _ hW (tv.zero (by first | exact fun h => c_6 ((rg_in (by omega) (by omega)).mpr h.1) | exact fun h => c_13 h.2))
    · -- eq not
      have c_6 := hr_3.t c_6
      refine lv_iload_n hx hb dX5_persecution_9 rfl (lv_at hl 2 rfl) ?_
      refine xs_i (As := [.int (a)]) (rest := []) ⟨hx, hb, hml, hown, hts⟩ (c_X5_isLand l D sa xa (mG G0 D xa σ ρ la) (a)) (va_cwS 1 hts gX5_persecution_X5_isLand rfl rfl rfl (by decide +kernel) ⟨Nat.le_of_ble_eq_true rfl, Nat.le_of_ble_eq_true rfl⟩) hW rfl rfl hl.1 (Nat.le_of_ble_eq_true rfl) dX5_persecution_10 ⟨Nat.le_of_ble_eq_true rfl, Nat.le_of_ble_eq_true rfl⟩ (fun r_10 xa1 G1 H locs hp hW => ?_)
      obtain ⟨hu, hr_10⟩ := hp
      cases hu
      refine lv_if_eq (tgt := 20) hx hb dX5_persecution_13 (by decide) (fun c_13 => ?_) (fun c_13 => ?_)
      · -- eq taken
        have c_13 := hr_10.f c_13
        refine lv_iconst (v := nI (0)) hx hb dX5_persecution_20 (by decide +kernel) ?_
        exact J21 _ _ _ hW (tv.zero (by first | exact fun h => c_6 ((rg_in (by omega) (by omega)).mpr h.1) | exact fun h => c_13 h.2))
      · -- eq not
        have c_13 := hr_10.t c_13
        refine lv_iconst (v := nI (1)) hx hb dX5_persecution_16 (by decide +kernel) ?_
        refine lv_goto (tgt := 21) hx hb dX5_persecution_17 (by decide) ?_
        exact J21 _ _ _ hW (tv.one (⟨(rg_in (a := 0) (b := 3) (by omega) (by omega)).mp c_6, c_13⟩))

set_option maxHeartbeats 4000000 in
set_option maxRecDepth 100000 in
theorem c_X5_faith (l : Launch) (D : xD) (sa : Nat → Nat) (xa : xA) (G0 : xG) (σ : Sg) (ρ : Nat → Nat) (la : Nat) (hg : Gd σ) (a y : Int32) : xCi l yX5_faith wsX5_faith ({ frames := 16, cells := 0, slots := 0, locals := 500 } : Room) D sa xa (mG G0 D xa σ ρ la) [.ref (xa 20 0), .int a, .int y] (fun r u => ∃ k, gk (pL a) (rg y 0 60) True k ∧ u = (xa, mG G0 D xa (t_faith σ a y k) ρ k) ∧ (k = 0 → r.toInt = (σ 8 (xn a) : Int))) 0 0 := by
  have hB := hg.1
  have h5 := hg.2.1.1
  have h7 := hg.2.1.2.1
  have h12 := hg.2.1.2.2.1
  have hy0 := hg.2.1.2.2.2.1
  have hy1 := hg.2.1.2.2.2.2
  have hm := hg.hm
  have hs8 := hg.hs8
  intro sz
  refine Met.ofW (cc := cX5_faith) (maxL := 4) (ret := (some .int)) (by decide +kernel) rfl ?_
  intro p e s m args below meth c s₁ B hml hv
  obtain ⟨rfl, hsz, hv2⟩ := hv
  subst hsz
  have hx := B.exec
  have hb := B.bytes
  have hr := B.returns
  have hts := atoms_spec (ws := wsX5_faith) B.pre
  have hown : s.vm.findClass RX5 = some m.cls := findClass_of_methodNamed B.named
  have hlocks := B.notSynchronized
  have hin5 : ∀ w ∈ wsX50, w ∈ wsX5_faith := by decide +kernel
  have hW := xW.start (s := s) ⟨rfl, hv2⟩
  clear hv2
  generalize xAw xa (mG G0 D xa σ ρ la) s.heap.size = A at hW ⊢
  have hl := lv_entry ([.ref (xa 20 0), .int (a), .int (y)]) (n := 4) (Nat.le_of_ble_eq_true rfl)
  rw [lg_entry_eq]
  generalize (lg_sl ([.ref (xa 20 0), .int (a), .int (y)]) ++ List.replicate (4 - (lg_sl ([.ref (xa 20 0), .int (a), .int (y)])).length) Slot.unset).toArray = ls at hl ⊢
  have hl : lv_has ls 4 [(0, .ref (xa 20 0)), (1, .int (a)), (2, .int (y))] := hl
  refine lv_aload_n hx hb dX5_faith_0 rfl (lv_at hl 0 rfl) ?_
  refine lv_iload_n hx hb dX5_faith_1 rfl (lv_at hl 1 rfl) ?_
  refine xs_i (As := [.int (a)]) (rest := [.ref (xa 20 0)]) ⟨hx, hb, hml, hown, hts⟩ (c_X5_isLand l D sa xa (mG G0 D xa σ ρ la) (a)) (va_cwS 1 hts gX5_faith_X5_isLand rfl rfl rfl (by decide +kernel) ⟨Nat.le_of_ble_eq_true rfl, Nat.le_of_ble_eq_true rfl⟩) hW rfl rfl hl.1 (Nat.le_of_ble_eq_true rfl) dX5_faith_2 ⟨Nat.le_of_ble_eq_true rfl, Nat.le_of_ble_eq_true rfl⟩ (fun r_2 xa1 G1 H locs hp hW => ?_)
  obtain ⟨hu, hr_2⟩ := hp
  cases hu
  refine lv_iload_n hx hb dX5_faith_5 rfl (lv_at hl 2 rfl) ?_
  refine lv_iconst (v := nI (0)) hx hb dX5_faith_6 (by decide +kernel) ?_
  refine lv_bipush (v := nI (60)) hx hb dX5_faith_7 (by decide +kernel) ?_
  refine xs_i (As := [.int (y), .int (nI (0)), .int (nI (60))]) (rest := [.int (r_2), .ref (xa 20 0)]) ⟨hx, hb, hml, hown, hts⟩ (c_X5_in l D sa xa (mG G0 D xa σ ρ la) (y) (nI (0)) (nI (60))) (va_cwS 3 hts gX5_faith_X5_in rfl rfl rfl (by decide +kernel) ⟨Nat.le_of_ble_eq_true rfl, Nat.le_of_ble_eq_true rfl⟩) hW rfl rfl hl.1 (Nat.le_of_ble_eq_true rfl) dX5_faith_9 ⟨Nat.le_of_ble_eq_true rfl, Nat.le_of_ble_eq_true rfl⟩ (fun r_9 xa1 G1 H locs hp hW => ?_)
  obtain ⟨hu, hr_9⟩ := hp
  cases hu
  refine lv_iconst (v := nI (1)) hx hb dX5_faith_12 (by decide +kernel) ?_
  refine xv_i (As := [.int (r_2), .int (r_9), .int (nI (1))]) (rest := []) ⟨hx, hb, hml, hown, hts⟩ (c_X5_goes l D sa xa G0 σ ρ la hB hr_2 hr_9 (tv.one trivial)) (cwV 3 hts gX5_faith_X5_goes rfl rfl rfl (by decide +kernel) ⟨Nat.le_of_ble_eq_true rfl, Nat.le_of_ble_eq_true rfl⟩) hW (mG_obj _ _ _ _ _ _) rfl rfl rfl rfl hl.1 (Nat.le_of_ble_eq_true rfl) dX5_faith_13 ⟨Nat.le_of_ble_eq_true rfl, Nat.le_of_ble_eq_true rfl⟩ (fun r_13 xa1 G1 H locs hp hW => ?_)
  obtain ⟨la1, hu, hr_13, hk⟩ := hp
  cases hu
  refine lv_if_ne (tgt := 21) hx hb dX5_faith_16 (by decide) (fun c_16 => ?_) (fun c_16 => ?_)
  · -- ne taken
    have c_16 := hr_13.t c_16
    subst c_16
    obtain ⟨hz1, hz2, hz3⟩ := hk.zero
    have hu_ai := hz1
    unfold pL at hu_ai
    obtain ⟨ai, hai, rfl⟩ := x_nat (n := 5) (x := a) (by omega) (by omega)
    have hz2 := (rg_in (by omega) (by omega)).mp hz2
    have hu_yi := hz2
    unfold rg at hu_yi
    obtain ⟨yi, hyi, rfl⟩ := x_nat (n := 61) (x := y) (by omega) (by omega)
    refine lv_aload_n hx hb dX5_faith_21 rfl (lv_at hl 0 rfl) ?_
    refine m_get hx hb hts hin5 hown hW 8 (by decide) rfl (hts (.fieldLink RX5 30 "RestitutoryModel" "faiths" "[I") (by decide +kernel)) (v := .ref (xa 20 8)) rfl dX5_faith_22 ?_
    refine lv_iload_n hx hb dX5_faith_25 rfl (lv_at hl 1 rfl) ?_
    refine m_ild hx hb hW 8 5 (by unfold mArr; decide) rfl rfl (ai) (by omega) (v := σ 8 ai) rfl dX5_faith_26 ?_
    have b_26 := hB 8 (ai)
    refine lv_istore_n (lv' := [(3, .int (nI (σ 8 ai))), (0, .ref (xa 20 0)), (1, .int (nI (ai))), (2, .int (nI (yi)))]) hx hb dX5_faith_27 rfl hl (by decide) rfl (fun ls hl => ?_)
    have hl : lv_has ls 4 [(0, .ref (xa 20 0)), (1, .int (nI (ai))), (2, .int (nI (yi))), (3, .int (nI (σ 8 ai)))] := lv_sub hl [1, 2, 3, 0] rfl
    refine lv_aload_n hx hb dX5_faith_28 rfl (lv_at hl 0 rfl) ?_
    refine m_get hx hb hts hin5 hown hW 8 (by decide) rfl (hts (.fieldLink RX5 30 "RestitutoryModel" "faiths" "[I") (by decide +kernel)) (v := .ref (xa 20 8)) rfl dX5_faith_29 ?_
    refine lv_iload_n hx hb dX5_faith_32 rfl (lv_at hl 1 rfl) ?_
    refine lv_iload_n hx hb dX5_faith_33 rfl (lv_at hl 2 rfl) ?_
    refine m_ist hx hb hW 8 5 (by unfold mArr; decide) rfl rfl (ai) (by omega) (v := yi) dX5_faith_34 (fun H locs hW => ?_)
    refine lv_iload_n hx hb dX5_faith_35 rfl (lv_at hl 3 rfl) ?_
    exact xe_i hx hb hr rfl hlocks hW ⟨0, hk.to Iff.rfl (fun _ => rg_in (by omega) (by omega)) (fun _ _ => Iff.rfl), by unfold t_faith; simp only [if_true, xn_nI (n := ai) (by omega), xn_nI (n := yi) (by omega)], fun _ => by rw [xn_nI (by omega)]; exact nI_toInt (by omega)⟩ (Nat.le_refl _) (Nat.le_refl _) dX5_faith_36
  · -- ne not
    have c_16 := hr_13.f c_16
    refine lv_iconst (v := nI (0)) hx hb dX5_faith_19 (by decide +kernel) ?_
    exact xe_i hx hb hr rfl hlocks hW ⟨la1, hk.to Iff.rfl (fun _ => rg_in (by omega) (by omega)) (fun _ _ => Iff.rfl), by unfold t_faith; rw [if_neg c_16], fun h => absurd h c_16⟩ (Nat.le_refl _) (Nat.le_refl _) dX5_faith_20

set_option maxHeartbeats 4000000 in
set_option maxRecDepth 100000 in
theorem c_X5_now (l : Launch) (D : xD) (sa : Nat → Nat) (xa : xA) (G0 : xG) (σ : Sg) (ρ : Nat → Nat) (la : Nat) (hg : Gd σ) (y : Int32) : xCi l yX5_now wsX5_now ({ frames := 16, cells := 0, slots := 0, locals := 500 } : Room) D sa xa (mG G0 D xa σ ρ la) [.ref (xa 20 0), .int y] (fun r u => ∃ k, gk ((σ 0 0 : Int) ≤ y.toInt ∧ y.toInt ≤ 2100) True True k ∧ u = (xa, mG G0 D xa (t_now σ y k) ρ k) ∧ (k = 0 → r.toInt = (σ 0 0 : Int))) 0 0 := by
  have hB := hg.1
  have h5 := hg.2.1.1
  have h7 := hg.2.1.2.1
  have h12 := hg.2.1.2.2.1
  have hy0 := hg.2.1.2.2.2.1
  have hy1 := hg.2.1.2.2.2.2
  have hm := hg.hm
  have hs8 := hg.hs8
  intro sz
  refine Met.ofW (cc := cX5_now) (maxL := 3) (ret := (some .int)) (by decide +kernel) rfl ?_
  intro p e s m args below meth c s₁ B hml hv
  obtain ⟨rfl, hsz, hv2⟩ := hv
  subst hsz
  have hx := B.exec
  have hb := B.bytes
  have hr := B.returns
  have hts := atoms_spec (ws := wsX5_now) B.pre
  have hown : s.vm.findClass RX5 = some m.cls := findClass_of_methodNamed B.named
  have hlocks := B.notSynchronized
  have hin5 : ∀ w ∈ wsX50, w ∈ wsX5_now := by decide +kernel
  have hW := xW.start (s := s) ⟨rfl, hv2⟩
  clear hv2
  generalize xAw xa (mG G0 D xa σ ρ la) s.heap.size = A at hW ⊢
  have hl := lv_entry ([.ref (xa 20 0), .int (y)]) (n := 3) (Nat.le_of_ble_eq_true rfl)
  rw [lg_entry_eq]
  generalize (lg_sl ([.ref (xa 20 0), .int (y)]) ++ List.replicate (3 - (lg_sl ([.ref (xa 20 0), .int (y)])).length) Slot.unset).toArray = ls at hl ⊢
  have hl : lv_has ls 3 [(0, .ref (xa 20 0)), (1, .int (y))] := hl
  refine lv_aload_n hx hb dX5_now_0 rfl (lv_at hl 0 rfl) ?_
  refine lv_iload_n hx hb dX5_now_1 rfl (lv_at hl 1 rfl) ?_
  refine lv_aload_n hx hb dX5_now_2 rfl (lv_at hl 0 rfl) ?_
  refine m_get hx hb hts hin5 hown hW 0 (by decide) rfl (hts (.fieldLink RX5 7 "RestitutoryModel" "now" "I") (by decide +kernel)) (v := .int (nI (σ 0 0))) rfl dX5_now_3 ?_
  have b_3 := hB 0 0
  refine lv_sipush (v := nI (2100)) hx hb dX5_now_6 (by decide +kernel) ?_
  refine xs_i (As := [.int (y), .int (nI (σ 0 0)), .int (nI (2100))]) (rest := [.ref (xa 20 0)]) ⟨hx, hb, hml, hown, hts⟩ (c_X5_in l D sa xa (mG G0 D xa σ ρ la) (y) (nI (σ 0 0)) (nI (2100))) (va_cwS 3 hts gX5_now_X5_in rfl rfl rfl (by decide +kernel) ⟨Nat.le_of_ble_eq_true rfl, Nat.le_of_ble_eq_true rfl⟩) hW rfl rfl hl.1 (Nat.le_of_ble_eq_true rfl) dX5_now_9 ⟨Nat.le_of_ble_eq_true rfl, Nat.le_of_ble_eq_true rfl⟩ (fun r_9 xa1 G1 H locs hp hW => ?_)
  obtain ⟨hu, hr_9⟩ := hp
  cases hu
  refine lv_iconst (v := nI (1)) hx hb dX5_now_12 (by decide +kernel) ?_
  refine lv_iconst (v := nI (1)) hx hb dX5_now_13 (by decide +kernel) ?_
  refine xv_i (As := [.int (r_9), .int (nI (1)), .int (nI (1))]) (rest := []) ⟨hx, hb, hml, hown, hts⟩ (c_X5_goes l D sa xa G0 σ ρ la hB hr_9 (tv.one trivial) (tv.one trivial)) (cwV 3 hts gX5_now_X5_goes rfl rfl rfl (by decide +kernel) ⟨Nat.le_of_ble_eq_true rfl, Nat.le_of_ble_eq_true rfl⟩) hW (mG_obj _ _ _ _ _ _) rfl rfl rfl rfl hl.1 (Nat.le_of_ble_eq_true rfl) dX5_now_14 ⟨Nat.le_of_ble_eq_true rfl, Nat.le_of_ble_eq_true rfl⟩ (fun r_14 xa1 G1 H locs hp hW => ?_)
  obtain ⟨la1, hu, hr_14, hk⟩ := hp
  cases hu
  refine lv_if_ne (tgt := 22) hx hb dX5_now_17 (by decide) (fun c_17 => ?_) (fun c_17 => ?_)
  · -- ne taken
    have c_17 := hr_14.t c_17
    subst c_17
    obtain ⟨hz1, hz2, hz3⟩ := hk.zero
    rw [nI_toInt (by omega), nI_toInt (by omega)] at hz1
    have hu_yi := (show rg y 0 2100 from ⟨by omega, by omega⟩)
    unfold rg at hu_yi
    obtain ⟨yi, hyi, rfl⟩ := x_nat (n := 2101) (x := y) (by omega) (by omega)
    refine lv_aload_n hx hb dX5_now_22 rfl (lv_at hl 0 rfl) ?_
    refine m_get hx hb hts hin5 hown hW 0 (by decide) rfl (hts (.fieldLink RX5 7 "RestitutoryModel" "now" "I") (by decide +kernel)) (v := .int (nI (σ 0 0))) rfl dX5_now_23 ?_
    have b_23 := hB 0 0
    refine lv_istore_n (lv' := [(2, .int (nI (σ 0 0))), (0, .ref (xa 20 0)), (1, .int (nI (yi)))]) hx hb dX5_now_26 rfl hl (by decide) rfl (fun ls hl => ?_)
    have hl : lv_has ls 3 [(0, .ref (xa 20 0)), (1, .int (nI (yi))), (2, .int (nI (σ 0 0)))] := lv_sub hl [1, 2, 0] rfl
    refine lv_aload_n hx hb dX5_now_27 rfl (lv_at hl 0 rfl) ?_
    refine lv_iload_n hx hb dX5_now_28 rfl (lv_at hl 1 rfl) ?_
    refine m_put hx hb hts hin5 hown hW 0 (by decide) (hts (.fieldLink RX5 7 "RestitutoryModel" "now" "I") (by decide +kernel)) (v := yi) dX5_now_29 (fun H locs hW => ?_)
    refine lv_iload_n hx hb dX5_now_32 rfl (lv_at hl 2 rfl) ?_
    exact xe_i hx hb hr rfl hlocks hW ⟨0, hk.to (by rw [nI_toInt (by omega), nI_toInt (by omega)]; exact Iff.rfl) (fun _ => Iff.rfl) (fun _ _ => Iff.rfl), by unfold t_now; simp only [if_true, xn_nI (n := yi) (by omega)], fun _ => nI_toInt (by omega)⟩ (Nat.le_refl _) (Nat.le_refl _) dX5_now_33
  · -- ne not
    have c_17 := hr_14.f c_17
    refine lv_iconst (v := nI (0)) hx hb dX5_now_20 (by decide +kernel) ?_
    exact xe_i hx hb hr rfl hlocks hW ⟨la1, hk.to (by rw [nI_toInt (by omega), nI_toInt (by omega)]; exact Iff.rfl) (fun _ => Iff.rfl) (fun _ _ => Iff.rfl), by unfold t_now; rw [if_neg c_17], fun h => absurd h c_17⟩ (Nat.le_refl _) (Nat.le_refl _) dX5_now_21

set_option maxHeartbeats 4000000 in
set_option maxRecDepth 100000 in
theorem c_X5_thing (l : Launch) (D : xD) (sa : Nat → Nat) (xa : xA) (G0 : xG) (σ : Sg) (ρ : Nat → Nat) (la : Nat) (hg : Gd σ) (mk sz : Int32) : xCi l yX5_thing wsX5_thing ({ frames := 16, cells := 0, slots := 0, locals := 500 } : Room) D sa xa (mG G0 D xa σ ρ la) [.ref (xa 20 0), .int mk, .int sz] (fun r u => ∃ k, gk (rg mk 0 65535 ∧ rg sz 0 1000) (σ 12 0 < 10) True k ∧ u = (xa, mG G0 D xa (t_thing σ mk sz k) ρ k) ∧ (k = 0 → r.toInt = (σ 12 0 : Int))) 0 0 := by
  have hB := hg.1
  have h5 := hg.2.1.1
  have h7 := hg.2.1.2.1
  have h12 := hg.2.1.2.2.1
  have hy0 := hg.2.1.2.2.2.1
  have hy1 := hg.2.1.2.2.2.2
  have hm := hg.hm
  have hs8 := hg.hs8
  intro sz
  refine Met.ofW (cc := cX5_thing) (maxL := 3) (ret := (some .int)) (by decide +kernel) rfl ?_
  intro p e s m args below meth c s₁ B hml hv
  obtain ⟨rfl, hsz, hv2⟩ := hv
  subst hsz
  have hx := B.exec
  have hb := B.bytes
  have hr := B.returns
  have hts := atoms_spec (ws := wsX5_thing) B.pre
  have hown : s.vm.findClass RX5 = some m.cls := findClass_of_methodNamed B.named
  have hlocks := B.notSynchronized
  have hin5 : ∀ w ∈ wsX50, w ∈ wsX5_thing := by decide +kernel
  have hW := xW.start (s := s) ⟨rfl, hv2⟩
  clear hv2
  generalize xAw xa (mG G0 D xa σ ρ la) s.heap.size = A at hW ⊢
  have hl := lv_entry ([.ref (xa 20 0), .int (mk), .int (sz)]) (n := 3) (Nat.le_of_ble_eq_true rfl)
  rw [lg_entry_eq]
  generalize (lg_sl ([.ref (xa 20 0), .int (mk), .int (sz)]) ++ List.replicate (3 - (lg_sl ([.ref (xa 20 0), .int (mk), .int (sz)])).length) Slot.unset).toArray = ls at hl ⊢
  have hl : lv_has ls 3 [(0, .ref (xa 20 0)), (1, .int (mk)), (2, .int (sz))] := hl
  refine lv_aload_n hx hb dX5_thing_0 rfl (lv_at hl 0 rfl) ?_
  refine x_joinW (ls := ls) (D := D) (sa := sa) (A := A) (xa := xa) (G := mG G0 D xa σ ρ la) (P := rg mk 0 65535 ∧ rg sz 0 1000) (mpc := 27) (rest := [.ref (xa 20 0)]) (fun H locs r_27 hW h_27 => ?_) (fun J27 => ?_)
  ·
    refine x_joinW (ls := ls) (D := D) (sa := sa) (A := A) (xa := xa) (G := mG G0 D xa σ ρ la) (P := σ 12 0 < 10) (mpc := 41) (rest := [.int (r_27), .ref (xa 20 0)]) (fun H locs r_41 hW h_41 => ?_) (fun J41 => ?_)
    ·
      refine lv_iconst (v := nI (1)) hx hb dX5_thing_41 (by decide +kernel) ?_
      refine xv_i (As := [.int (r_27), .int (r_41), .int (nI (1))]) (rest := []) ⟨hx, hb, hml, hown, hts⟩ (c_X5_goes l D sa xa G0 σ ρ la hB h_27 h_41 (tv.one trivial)) (cwV 3 hts gX5_thing_X5_goes rfl rfl rfl (by decide +kernel) ⟨Nat.le_of_ble_eq_true rfl, Nat.le_of_ble_eq_true rfl⟩) hW (mG_obj _ _ _ _ _ _) rfl rfl rfl rfl hl.1 (Nat.le_of_ble_eq_true rfl) dX5_thing_42 ⟨Nat.le_of_ble_eq_true rfl, Nat.le_of_ble_eq_true rfl⟩ (fun r_42 xa1 G1 H locs hp hW => ?_)
      obtain ⟨la1, hu, hr_42, hk⟩ := hp
      cases hu
      refine lv_if_ne (tgt := 50) hx hb dX5_thing_45 (by decide) (fun c_45 => ?_) (fun c_45 => ?_)
      · -- ne taken
        have c_45 := hr_42.t c_45
        subst c_45
        obtain ⟨hz1, hz2, hz3⟩ := hk.zero
        have hu_mi := hz1.1
        unfold rg at hu_mi
        obtain ⟨mi, hmi, rfl⟩ := x_nat (n := 65536) (x := mk) (by omega) (by omega)
        have hu_si := hz1.2
        unfold rg at hu_si
        obtain ⟨si, hsi, rfl⟩ := x_nat (n := 1001) (x := sz) (by omega) (by omega)
        refine lv_aload_n hx hb dX5_thing_50 rfl (lv_at hl 0 rfl) ?_
        refine m_get hx hb hts hin5 hown hW 9 (by decide) rfl (hts (.fieldLink RX5 33 "RestitutoryModel" "marks" "[I") (by decide +kernel)) (v := .ref (xa 20 9)) rfl dX5_thing_51 ?_
        refine lv_aload_n hx hb dX5_thing_54 rfl (lv_at hl 0 rfl) ?_
        refine m_get hx hb hts hin5 hown hW 12 (by decide) rfl (hts (.fieldLink RX5 73 "RestitutoryModel" "things" "I") (by decide +kernel)) (v := .int (nI (σ 12 0))) rfl dX5_thing_55 ?_
        have b_55 := hB 12 0
        refine lv_iload_n hx hb dX5_thing_58 rfl (lv_at hl 1 rfl) ?_
        refine m_ist hx hb hW 9 10 (by unfold mArr; decide) rfl rfl (σ 12 0) (by omega) (v := mi) dX5_thing_59 (fun H locs hW => ?_)
        refine lv_aload_n hx hb dX5_thing_60 rfl (lv_at hl 0 rfl) ?_
        refine m_get hx hb hts hin5 hown hW 10 (by decide) rfl (hts (.fieldLink RX5 36 "RestitutoryModel" "sizes" "[I") (by decide +kernel)) (v := .ref (xa 20 10)) rfl dX5_thing_61 ?_
        refine lv_aload_n hx hb dX5_thing_64 rfl (lv_at hl 0 rfl) ?_
        refine m_get hx hb hts hin5 hown hW 12 (by decide) rfl (hts (.fieldLink RX5 73 "RestitutoryModel" "things" "I") (by decide +kernel)) (v := .int (nI (σ 12 0))) rfl dX5_thing_65 ?_
        have b_65 := hB 12 0
        refine lv_iload_n hx hb dX5_thing_68 rfl (lv_at hl 2 rfl) ?_
        refine m_ist hx hb hW 10 10 (by unfold mArr; decide) rfl rfl (σ 12 0) (by omega) (v := si) dX5_thing_69 (fun H locs hW => ?_)
        refine lv_aload_n hx hb dX5_thing_70 rfl (lv_at hl 0 rfl) ?_
        refine lv_dup hx hb dX5_thing_71 rfl ?_
        refine m_get hx hb hts hin5 hown hW 12 (by decide) rfl (hts (.fieldLink RX5 73 "RestitutoryModel" "things" "I") (by decide +kernel)) (v := .int (nI (σ 12 0))) rfl dX5_thing_72 ?_
        have b_72 := hB 12 0
        refine lv_iconst (v := nI (1)) hx hb dX5_thing_75 (by decide +kernel) ?_
        refine lv_iadd hx hb dX5_thing_76 ?_
        rw [nI_add]
        refine m_put hx hb hts hin5 hown hW 12 (by decide) (hts (.fieldLink RX5 73 "RestitutoryModel" "things" "I") (by decide +kernel)) (v := (σ 12 0) + 1) dX5_thing_77 (fun H locs hW => ?_)
        refine lv_aload_n hx hb dX5_thing_80 rfl (lv_at hl 0 rfl) ?_
        refine m_get hx hb hts hin5 hown hW 12 (by decide) rfl (hts (.fieldLink RX5 73 "RestitutoryModel" "things" "I") (by decide +kernel)) (v := .int (nI ((σ 12 0) + 1))) rfl dX5_thing_81 ?_
        refine lv_iconst (v := nI (1)) hx hb dX5_thing_84 (by decide +kernel) ?_
        refine lv_isub hx hb dX5_thing_85 ?_
        exact xe_i hx hb hr rfl hlocks hW ⟨0, hk, by unfold t_thing; simp only [if_true, xn_nI (n := mi) (by omega), xn_nI (n := si) (by omega)], fun _ => by rw [pk_sub_toInt (by omega) (by omega)]; omega⟩ (Nat.le_refl _) (Nat.le_refl _) dX5_thing_86
      · -- ne not
        have c_45 := hr_42.f c_45
        refine lv_iconst (v := nI (0)) hx hb dX5_thing_48 (by decide +kernel) ?_
        exact xe_i hx hb hr rfl hlocks hW ⟨la1, hk, by unfold t_thing; rw [if_neg c_45], fun h => absurd h c_45⟩ (Nat.le_refl _) (Nat.le_refl _) dX5_thing_49
    ·
      refine lv_aload_n hx hb dX5_thing_27 rfl (lv_at hl 0 rfl) ?_
      refine m_get hx hb hts hin5 hown hW 12 (by decide) rfl (hts (.fieldLink RX5 73 "RestitutoryModel" "things" "I") (by decide +kernel)) (v := .int (nI (σ 12 0))) rfl dX5_thing_28 ?_
      have b_28 := hB 12 0
      refine lv_bipush (v := nI (10)) hx hb dX5_thing_31 (by decide +kernel) ?_
      refine lv_icmp_ge (tgt := 40) hx hb dX5_thing_33 (by decide) (fun c_33 => ?_) (fun c_33 => ?_)
      · -- ge taken
        have c_33 := Int32.le_iff_toInt_le.mp c_33
        rw [nI_toInt (n := σ 12 0) (by omega)] at c_33
        rw [nI_toInt (n := 10) (by omega)] at c_33
        refine lv_iconst (v := nI (0)) hx hb dX5_thing_40 (by decide +kernel) ?_
        exact J41 _ _ _ hW (tv.zero (by omega))
      · -- ge not
        have c_33 : ¬ ((nI (10)).toInt ≤ (nI (σ 12 0)).toInt) := fun h => c_33 (Int32.le_iff_toInt_le.mpr h)
        rw [nI_toInt (n := σ 12 0) (by omega)] at c_33
        rw [nI_toInt (n := 10) (by omega)] at c_33
        refine lv_iconst (v := nI (1)) hx hb dX5_thing_36 (by decide +kernel) ?_
        refine lv_goto (tgt := 41) hx hb dX5_thing_37 (by decide) ?_
        exact J41 _ _ _ hW (tv.one (by omega))
  ·
    refine lv_iload_n hx hb dX5_thing_1 rfl (lv_at hl 1 rfl) ?_
    refine lv_iconst (v := nI (0)) hx hb dX5_thing_2 (by decide +kernel) ?_
    refine lv_ldc (v := nI 65535) hx hb hown (hts (.constant RX5 97 (65535)) (by decide +kernel)) dX5_thing_3 ?_
    refine xs_i (As := [.int (mk), .int (nI (0)), .int (nI (65535))]) (rest := [.ref (xa 20 0)]) ⟨hx, hb, hml, hown, hts⟩ (c_X5_in l D sa xa (mG G0 D xa σ ρ la) (mk) (nI (0)) (nI (65535))) (va_cwS 3 hts gX5_thing_X5_in rfl rfl rfl (by decide +kernel) ⟨Nat.le_of_ble_eq_true rfl, Nat.le_of_ble_eq_true rfl⟩) hW rfl rfl hl.1 (Nat.le_of_ble_eq_true rfl) dX5_thing_5 ⟨Nat.le_of_ble_eq_true rfl, Nat.le_of_ble_eq_true rfl⟩ (fun r_5 xa1 G1 H locs hp hW => ?_)
    obtain ⟨hu, hr_5⟩ := hp
    cases hu
    refine lv_if_eq (tgt := 26) hx hb dX5_thing_8 (by decide) (fun c_8 => ?_) (fun c_8 => ?_)
    · -- eq taken
      have c_8 := hr_5.f c_8
      refine lv_iconst (v := nI (0)) hx hb dX5_thing_26 (by decide +kernel) ?_
      exact J27 _ _ _ hW (tv.zero (by first | exact fun h => c_8 ((rg_in (by omega) (by omega)).mpr h.1) | exact fun h => c_19 ((rg_in (by omega) (by omega)).mpr h.2)))
    · -- eq not
      have c_8 := hr_5.t c_8
      refine lv_iload_n hx hb dX5_thing_11 rfl (lv_at hl 2 rfl) ?_
      refine lv_iconst (v := nI (0)) hx hb dX5_thing_12 (by decide +kernel) ?_
      refine lv_sipush (v := nI (1000)) hx hb dX5_thing_13 (by decide +kernel) ?_
      refine xs_i (As := [.int (sz), .int (nI (0)), .int (nI (1000))]) (rest := [.ref (xa 20 0)]) ⟨hx, hb, hml, hown, hts⟩ (c_X5_in l D sa xa (mG G0 D xa σ ρ la) (sz) (nI (0)) (nI (1000))) (va_cwS 3 hts gX5_thing_X5_in rfl rfl rfl (by decide +kernel) ⟨Nat.le_of_ble_eq_true rfl, Nat.le_of_ble_eq_true rfl⟩) hW rfl rfl hl.1 (Nat.le_of_ble_eq_true rfl) dX5_thing_16 ⟨Nat.le_of_ble_eq_true rfl, Nat.le_of_ble_eq_true rfl⟩ (fun r_16 xa1 G1 H locs hp hW => ?_)
      obtain ⟨hu, hr_16⟩ := hp
      cases hu
      refine lv_if_eq (tgt := 26) hx hb dX5_thing_19 (by decide) (fun c_19 => ?_) (fun c_19 => ?_)
      · -- eq taken
        have c_19 := hr_16.f c_19
        refine lv_iconst (v := nI (0)) hx hb dX5_thing_26 (by decide +kernel) ?_
        exact J27 _ _ _ hW (tv.zero (by first | exact fun h => c_8 ((rg_in (by omega) (by omega)).mpr h.1) | exact fun h => c_19 ((rg_in (by omega) (by omega)).mpr h.2)))
      · -- eq not
        have c_19 := hr_16.t c_19
        refine lv_iconst (v := nI (1)) hx hb dX5_thing_22 (by decide +kernel) ?_
        refine lv_goto (tgt := 27) hx hb dX5_thing_23 (by decide) ?_
        exact J27 _ _ _ hW (tv.one (⟨(rg_in (a := 0) (b := 65535) (by omega) (by omega)).mp c_8, (rg_in (a := 0) (b := 1000) (by omega) (by omega)).mp c_19⟩))

set_option maxHeartbeats 4000000 in
set_option maxRecDepth 100000 in
theorem c_X5_station (l : Launch) (D : xD) (sa : Nat → Nat) (xa : xA) (G0 : xG) (σ : Sg) (ρ : Nat → Nat) (la : Nat) (hg : Gd σ) (t q kd a y : Int32) : xCi l yX5_station wsX5_station ({ frames := 16, cells := 0, slots := 0, locals := 500 } : Room) D sa xa (mG G0 D xa σ ρ la) [.ref (xa 20 0), .int t, .int q, .int kd, .int a, .int y] (fun r u => ∃ k, gk (pT σ t ∧ pP σ q ∧ pL a) (rg kd 0 5 ∧ 1900 ≤ y.toInt ∧ y.toInt ≤ σ 0 0) (σ 11 (xn t) < 8) k ∧ u = (xa, mG G0 D xa (t_station σ t q kd a y k) ρ k) ∧ (k = 0 → r.toInt = (σ 11 (xn t) : Int))) 0 0 := by
  have hB := hg.1
  have h5 := hg.2.1.1
  have h7 := hg.2.1.2.1
  have h12 := hg.2.1.2.2.1
  have hy0 := hg.2.1.2.2.2.1
  have hy1 := hg.2.1.2.2.2.2
  have hm := hg.hm
  have hs8 := hg.hs8
  intro sz
  refine Met.ofW (cc := cX5_station) (maxL := 8) (ret := (some .int)) (by decide +kernel) rfl ?_
  intro p e s m args below meth c s₁ B hml hv
  obtain ⟨rfl, hsz, hv2⟩ := hv
  subst hsz
  have hx := B.exec
  have hb := B.bytes
  have hr := B.returns
  have hts := atoms_spec (ws := wsX5_station) B.pre
  have hown : s.vm.findClass RX5 = some m.cls := findClass_of_methodNamed B.named
  have hlocks := B.notSynchronized
  have hin5 : ∀ w ∈ wsX50, w ∈ wsX5_station := by decide +kernel
  have hW := xW.start (s := s) ⟨rfl, hv2⟩
  clear hv2
  generalize xAw xa (mG G0 D xa σ ρ la) s.heap.size = A at hW ⊢
  have hl := lv_entry ([.ref (xa 20 0), .int (t), .int (q), .int (kd), .int (a), .int (y)]) (n := 8) (Nat.le_of_ble_eq_true rfl)
  rw [lg_entry_eq]
  generalize (lg_sl ([.ref (xa 20 0), .int (t), .int (q), .int (kd), .int (a), .int (y)]) ++ List.replicate (8 - (lg_sl ([.ref (xa 20 0), .int (t), .int (q), .int (kd), .int (a), .int (y)])).length) Slot.unset).toArray = ls at hl ⊢
  have hl : lv_has ls 8 [(0, .ref (xa 20 0)), (1, .int (t)), (2, .int (q)), (3, .int (kd)), (4, .int (a)), (5, .int (y))] := hl
  refine x_joinW (ls := ls) (D := D) (sa := sa) (A := A) (xa := xa) (G := mG G0 D xa σ ρ la) (P := pT σ t ∧ pP σ q ∧ pL a) (mpc := 29) (rest := []) (fun H locs r_29 hW h_29 => ?_) (fun J29 => ?_)
  ·
    refine lv_istore (lv' := [(6, .int (r_29)), (0, .ref (xa 20 0)), (1, .int (t)), (2, .int (q)), (3, .int (kd)), (4, .int (a)), (5, .int (y))]) hx hb dX5_station_29 hl (by decide) rfl (fun ls hl => ?_)
    have hl : lv_has ls 8 [(0, .ref (xa 20 0)), (1, .int (t)), (2, .int (q)), (3, .int (kd)), (4, .int (a)), (5, .int (y)), (6, .int (r_29))] := lv_sub hl [1, 2, 3, 4, 5, 6, 0] rfl
    refine lv_aload_n hx hb dX5_station_31 rfl (lv_at hl 0 rfl) ?_
    refine lv_iload hx hb dX5_station_32 (lv_at hl 6 rfl) ?_
    refine x_joinW (ls := ls) (D := D) (sa := sa) (A := A) (xa := xa) (G := mG G0 D xa σ ρ la) (P := rg kd 0 5 ∧ 1900 ≤ y.toInt ∧ y.toInt ≤ σ 0 0) (mpc := 63) (rest := [.int (r_29), .ref (xa 20 0)]) (fun H locs r_63 hW h_63 => ?_) (fun J63 => ?_)
    ·
      refine x_joinW (ls := ls) (D := D) (sa := sa) (A := A) (xa := xa) (G := mG G0 D xa σ ρ la) (P := (pT σ t ∧ pP σ q ∧ pL a) ∧ σ 11 (xn t) < 8) (mpc := 84) (rest := [.int (r_63), .int (r_29), .ref (xa 20 0)]) (fun H locs r_84 hW h_84 => ?_) (fun J84 => ?_)
      ·
        refine xv_i (As := [.int (r_29), .int (r_63), .int (r_84)]) (rest := []) ⟨hx, hb, hml, hown, hts⟩ (c_X5_goes l D sa xa G0 σ ρ la hB h_29 h_63 h_84) (cwV 3 hts gX5_station_X5_goes rfl rfl rfl (by decide +kernel) ⟨Nat.le_of_ble_eq_true rfl, Nat.le_of_ble_eq_true rfl⟩) hW (mG_obj _ _ _ _ _ _) rfl rfl rfl rfl hl.1 (Nat.le_of_ble_eq_true rfl) dX5_station_84 ⟨Nat.le_of_ble_eq_true rfl, Nat.le_of_ble_eq_true rfl⟩ (fun r_84 xa1 G1 H locs hp hW => ?_)
        obtain ⟨la1, hu, hr_84, hk⟩ := hp
        cases hu
        refine lv_if_ne (tgt := 92) hx hb dX5_station_87 (by decide) (fun c_87 => ?_) (fun c_87 => ?_)
        · -- ne taken
          have c_87 := hr_84.t c_87
          subst c_87
          obtain ⟨hz1, hz2, hz3⟩ := hk.zero
          have hu_ti := hz1.1
          unfold pT at hu_ti
          obtain ⟨ti, hti, rfl⟩ := x_nat (n := σ 12 0) (x := t) (by omega) (by omega)
          have hu_qi := hz1.2.1
          unfold pP at hu_qi
          obtain ⟨qi, hqi, rfl⟩ := x_nat (n := σ 5 0) (x := q) (by omega) (by omega)
          have hu_ai := hz1.2.2
          unfold pL at hu_ai
          obtain ⟨ai, hai, rfl⟩ := x_nat (n := 5) (x := a) (by omega) (by omega)
          have hu_ki := hz2.1
          unfold rg at hu_ki
          obtain ⟨ki, hki, rfl⟩ := x_nat (n := 6) (x := kd) (by omega) (by omega)
          have hz4 := hz2.2
          have hz5 := hz3.2
          rw [xn_nI (by omega)] at hz5
          have hu_yi := (show rg y 0 2100 from ⟨by omega, by omega⟩)
          unfold rg at hu_yi
          obtain ⟨yi, hyi, rfl⟩ := x_nat (n := 2101) (x := y) (by omega) (by omega)
          refine lv_bipush (v := nI (8)) hx hb dX5_station_92 (by decide +kernel) ?_
          refine lv_iload_n hx hb dX5_station_94 rfl (lv_at hl 1 rfl) ?_
          refine lv_imul hx hb dX5_station_95 ?_
          rw [pk_mul]
          refine lv_aload_n hx hb dX5_station_96 rfl (lv_at hl 0 rfl) ?_
          refine m_get hx hb hts hin5 hown hW 11 (by decide) rfl (hts (.fieldLink RX5 39 "RestitutoryModel" "stationMany" "[I") (by decide +kernel)) (v := .ref (xa 20 11)) rfl dX5_station_97 ?_
          refine lv_iload_n hx hb dX5_station_100 rfl (lv_at hl 1 rfl) ?_
          refine m_ild hx hb hW 11 10 (by unfold mArr; decide) rfl rfl (ti) (by omega) (v := σ 11 ti) rfl dX5_station_101 ?_
          have b_101 := hB 11 (ti)
          refine lv_iadd hx hb dX5_station_102 ?_
          rw [nI_add]
          refine lv_istore (lv' := [(7, .int (nI ((8 * ti) + (σ 11 ti)))), (0, .ref (xa 20 0)), (1, .int (nI (ti))), (2, .int (nI (qi))), (3, .int (nI (ki))), (4, .int (nI (ai))), (5, .int (nI (yi))), (6, .int (r_29))]) hx hb dX5_station_103 hl (by decide) rfl (fun ls hl => ?_)
          have hl : lv_has ls 8 [(0, .ref (xa 20 0)), (1, .int (nI (ti))), (2, .int (nI (qi))), (3, .int (nI (ki))), (4, .int (nI (ai))), (5, .int (nI (yi))), (6, .int (r_29)), (7, .int (nI ((8 * ti) + (σ 11 ti))))] := lv_sub hl [1, 2, 3, 4, 5, 6, 7, 0] rfl
          refine lv_aload_n hx hb dX5_station_105 rfl (lv_at hl 0 rfl) ?_
          refine m_get hx hb hts hin5 hown hW 13 (by decide) rfl (hts (.fieldLink RX5 42 "RestitutoryModel" "parties" "[I") (by decide +kernel)) (v := .ref (xa 20 13)) rfl dX5_station_106 ?_
          refine lv_iload hx hb dX5_station_109 (lv_at hl 7 rfl) ?_
          refine lv_iload_n hx hb dX5_station_111 rfl (lv_at hl 2 rfl) ?_
          refine m_ist hx hb hW 13 80 (by unfold mArr; decide) rfl rfl ((8 * ti) + (σ 11 ti)) (by omega) (v := qi) dX5_station_112 (fun H locs hW => ?_)
          refine lv_aload_n hx hb dX5_station_113 rfl (lv_at hl 0 rfl) ?_
          refine m_get hx hb hts hin5 hown hW 14 (by decide) rfl (hts (.fieldLink RX5 45 "RestitutoryModel" "kinds" "[I") (by decide +kernel)) (v := .ref (xa 20 14)) rfl dX5_station_114 ?_
          refine lv_iload hx hb dX5_station_117 (lv_at hl 7 rfl) ?_
          refine lv_iload_n hx hb dX5_station_119 rfl (lv_at hl 3 rfl) ?_
          refine m_ist hx hb hW 14 80 (by unfold mArr; decide) rfl rfl ((8 * ti) + (σ 11 ti)) (by omega) (v := ki) dX5_station_120 (fun H locs hW => ?_)
          refine lv_aload_n hx hb dX5_station_121 rfl (lv_at hl 0 rfl) ?_
          refine m_get hx hb hts hin5 hown hW 15 (by decide) rfl (hts (.fieldLink RX5 48 "RestitutoryModel" "lands" "[I") (by decide +kernel)) (v := .ref (xa 20 15)) rfl dX5_station_122 ?_
          refine lv_iload hx hb dX5_station_125 (lv_at hl 7 rfl) ?_
          refine lv_iload hx hb dX5_station_127 (lv_at hl 4 rfl) ?_
          refine m_ist hx hb hW 15 80 (by unfold mArr; decide) rfl rfl ((8 * ti) + (σ 11 ti)) (by omega) (v := ai) dX5_station_129 (fun H locs hW => ?_)
          refine lv_aload_n hx hb dX5_station_130 rfl (lv_at hl 0 rfl) ?_
          refine m_get hx hb hts hin5 hown hW 16 (by decide) rfl (hts (.fieldLink RX5 51 "RestitutoryModel" "years" "[I") (by decide +kernel)) (v := .ref (xa 20 16)) rfl dX5_station_131 ?_
          refine lv_iload hx hb dX5_station_134 (lv_at hl 7 rfl) ?_
          refine lv_iload hx hb dX5_station_136 (lv_at hl 5 rfl) ?_
          refine m_ist hx hb hW 16 80 (by unfold mArr; decide) rfl rfl ((8 * ti) + (σ 11 ti)) (by omega) (v := yi) dX5_station_138 (fun H locs hW => ?_)
          refine lv_aload_n hx hb dX5_station_139 rfl (lv_at hl 0 rfl) ?_
          refine m_get hx hb hts hin5 hown hW 11 (by decide) rfl (hts (.fieldLink RX5 39 "RestitutoryModel" "stationMany" "[I") (by decide +kernel)) (v := .ref (xa 20 11)) rfl dX5_station_140 ?_
          refine lv_iload_n hx hb dX5_station_143 rfl (lv_at hl 1 rfl) ?_
          refine lv_dup2_11 hx hb dX5_station_144 rfl rfl ?_
          refine m_ild hx hb hW 11 10 (by unfold mArr; decide) rfl rfl (ti) (by omega) (v := σ 11 ti) ((sup_ne _ (by omega)).trans ((sup_ne _ (by omega)).trans ((sup_ne _ (by omega)).trans (sup_ne _ (by omega))))) dX5_station_145 ?_
          have b_145 := hB 11 (ti)
          refine lv_iconst (v := nI (1)) hx hb dX5_station_146 (by decide +kernel) ?_
          refine lv_iadd hx hb dX5_station_147 ?_
          rw [nI_add]
          refine m_ist hx hb hW 11 10 (by unfold mArr; decide) rfl rfl (ti) (by omega) (v := (σ 11 ti) + 1) dX5_station_148 (fun H locs hW => ?_)
          refine lv_aload_n hx hb dX5_station_149 rfl (lv_at hl 0 rfl) ?_
          refine m_get hx hb hts hin5 hown hW 11 (by decide) rfl (hts (.fieldLink RX5 39 "RestitutoryModel" "stationMany" "[I") (by decide +kernel)) (v := .ref (xa 20 11)) rfl dX5_station_150 ?_
          refine lv_iload_n hx hb dX5_station_153 rfl (lv_at hl 1 rfl) ?_
          refine m_ild hx hb hW 11 10 (by unfold mArr; decide) rfl rfl (ti) (by omega) (v := (σ 11 ti) + 1) (sup_self _ _ _ _) dX5_station_154 ?_
          refine lv_iconst (v := nI (1)) hx hb dX5_station_155 (by decide +kernel) ?_
          refine lv_isub hx hb dX5_station_156 ?_
          exact xe_i hx hb hr rfl hlocks hW ⟨0, hk.to Iff.rfl (fun _ => Iff.rfl) (fun h _ => ⟨And.right, fun h2 => ⟨h, h2⟩⟩), by unfold t_station; simp only [if_true, xn_nI (n := ti) (by omega), xn_nI (n := qi) (by omega), xn_nI (n := ki) (by omega), xn_nI (n := ai) (by omega), xn_nI (n := yi) (by omega)], fun _ => by rw [pk_sub_toInt (by omega) (by omega), xn_nI (by omega)]; omega⟩ (Nat.le_refl _) (Nat.le_refl _) dX5_station_157
        · -- ne not
          have c_87 := hr_84.f c_87
          refine lv_iconst (v := nI (0)) hx hb dX5_station_90 (by decide +kernel) ?_
          exact xe_i hx hb hr rfl hlocks hW ⟨la1, hk.to Iff.rfl (fun _ => Iff.rfl) (fun h _ => ⟨And.right, fun h2 => ⟨h, h2⟩⟩), by unfold t_station; rw [if_neg c_87], fun h => absurd h c_87⟩ (Nat.le_refl _) (Nat.le_refl _) dX5_station_91
      ·
        refine lv_iload hx hb dX5_station_63 (lv_at hl 6 rfl) ?_
        refine lv_if_eq (tgt := 83) hx hb dX5_station_65 (by decide) (fun c_65 => ?_) (fun c_65 => ?_)
        · -- eq taken
          have c_65 := h_29.f c_65
          refine lv_iconst (v := nI (0)) hx hb dX5_station_83 (by decide +kernel) ?_
          exact J84 _ _ _ hW (tv.zero (by first | exact fun h => c_65 h.1 | (intro h; have h1 := h.2; rw [xn_nI (by omega)] at h1; omega)))
        · -- eq not
          have c_65 := h_29.t c_65
          have hu_ti := c_65.1
          unfold pT at hu_ti
          obtain ⟨ti, hti, rfl⟩ := x_nat (n := σ 12 0) (x := t) (by omega) (by omega)
          refine lv_aload_n hx hb dX5_station_68 rfl (lv_at hl 0 rfl) ?_
          refine m_get hx hb hts hin5 hown hW 11 (by decide) rfl (hts (.fieldLink RX5 39 "RestitutoryModel" "stationMany" "[I") (by decide +kernel)) (v := .ref (xa 20 11)) rfl dX5_station_69 ?_
          refine lv_iload_n hx hb dX5_station_72 rfl (lv_at hl 1 rfl) ?_
          refine m_ild hx hb hW 11 10 (by unfold mArr; decide) rfl rfl (ti) (by omega) (v := σ 11 ti) rfl dX5_station_73 ?_
          have b_73 := hB 11 (ti)
          refine lv_bipush (v := nI (8)) hx hb dX5_station_74 (by decide +kernel) ?_
          refine lv_icmp_ge (tgt := 83) hx hb dX5_station_76 (by decide) (fun c_76 => ?_) (fun c_76 => ?_)
          · -- ge taken
            have c_76 := Int32.le_iff_toInt_le.mp c_76
            rw [nI_toInt (n := σ 11 ti) (by omega)] at c_76
            rw [nI_toInt (n := 8) (by omega)] at c_76
            refine lv_iconst (v := nI (0)) hx hb dX5_station_83 (by decide +kernel) ?_
            exact J84 _ _ _ hW (tv.zero (by first | exact fun h => c_65 h.1 | (intro h; have h1 := h.2; rw [xn_nI (by omega)] at h1; omega)))
          · -- ge not
            have c_76 : ¬ ((nI (8)).toInt ≤ (nI (σ 11 ti)).toInt) := fun h => c_76 (Int32.le_iff_toInt_le.mpr h)
            rw [nI_toInt (n := σ 11 ti) (by omega)] at c_76
            rw [nI_toInt (n := 8) (by omega)] at c_76
            refine lv_iconst (v := nI (1)) hx hb dX5_station_79 (by decide +kernel) ?_
            refine lv_goto (tgt := 84) hx hb dX5_station_80 (by decide) ?_
            exact J84 _ _ _ hW (tv.one (⟨c_65, by rw [xn_nI (by omega)]; omega⟩))
    ·
      refine lv_iload_n hx hb dX5_station_34 rfl (lv_at hl 3 rfl) ?_
      refine lv_iconst (v := nI (0)) hx hb dX5_station_35 (by decide +kernel) ?_
      refine lv_iconst (v := nI (5)) hx hb dX5_station_36 (by decide +kernel) ?_
      refine xs_i (As := [.int (kd), .int (nI (0)), .int (nI (5))]) (rest := [.int (r_29), .ref (xa 20 0)]) ⟨hx, hb, hml, hown, hts⟩ (c_X5_in l D sa xa (mG G0 D xa σ ρ la) (kd) (nI (0)) (nI (5))) (va_cwS 3 hts gX5_station_X5_in rfl rfl rfl (by decide +kernel) ⟨Nat.le_of_ble_eq_true rfl, Nat.le_of_ble_eq_true rfl⟩) hW rfl rfl hl.1 (Nat.le_of_ble_eq_true rfl) dX5_station_37 ⟨Nat.le_of_ble_eq_true rfl, Nat.le_of_ble_eq_true rfl⟩ (fun r_37 xa1 G1 H locs hp hW => ?_)
      obtain ⟨hu, hr_37⟩ := hp
      cases hu
      refine lv_if_eq (tgt := 62) hx hb dX5_station_40 (by decide) (fun c_40 => ?_) (fun c_40 => ?_)
      · -- eq taken
        have c_40 := hr_37.f c_40
        refine lv_iconst (v := nI (0)) hx hb dX5_station_62 (by decide +kernel) ?_
        exact J63 _ _ _ hW (tv.zero (by intro hh; unfold rg at hh; first | (refine c_40 ?_; rw [nI_toInt (by omega), nI_toInt (by omega)]; omega) | (refine c_55 ?_; rw [nI_toInt (by omega), nI_toInt (by omega)]; omega)))
      · -- eq not
        have c_40 := hr_37.t c_40
        refine lv_iload hx hb dX5_station_43 (lv_at hl 5 rfl) ?_
        refine lv_sipush (v := nI (1900)) hx hb dX5_station_45 (by decide +kernel) ?_
        refine lv_aload_n hx hb dX5_station_48 rfl (lv_at hl 0 rfl) ?_
        refine m_get hx hb hts hin5 hown hW 0 (by decide) rfl (hts (.fieldLink RX5 7 "RestitutoryModel" "now" "I") (by decide +kernel)) (v := .int (nI (σ 0 0))) rfl dX5_station_49 ?_
        have b_49 := hB 0 0
        refine xs_i (As := [.int (y), .int (nI (1900)), .int (nI (σ 0 0))]) (rest := [.int (r_29), .ref (xa 20 0)]) ⟨hx, hb, hml, hown, hts⟩ (c_X5_in l D sa xa (mG G0 D xa σ ρ la) (y) (nI (1900)) (nI (σ 0 0))) (va_cwS 3 hts gX5_station_X5_in rfl rfl rfl (by decide +kernel) ⟨Nat.le_of_ble_eq_true rfl, Nat.le_of_ble_eq_true rfl⟩) hW rfl rfl hl.1 (Nat.le_of_ble_eq_true rfl) dX5_station_52 ⟨Nat.le_of_ble_eq_true rfl, Nat.le_of_ble_eq_true rfl⟩ (fun r_52 xa1 G1 H locs hp hW => ?_)
        obtain ⟨hu, hr_52⟩ := hp
        cases hu
        refine lv_if_eq (tgt := 62) hx hb dX5_station_55 (by decide) (fun c_55 => ?_) (fun c_55 => ?_)
        · -- eq taken
          have c_55 := hr_52.f c_55
          refine lv_iconst (v := nI (0)) hx hb dX5_station_62 (by decide +kernel) ?_
          exact J63 _ _ _ hW (tv.zero (by intro hh; unfold rg at hh; first | (refine c_40 ?_; rw [nI_toInt (by omega), nI_toInt (by omega)]; omega) | (refine c_55 ?_; rw [nI_toInt (by omega), nI_toInt (by omega)]; omega)))
        · -- eq not
          have c_55 := hr_52.t c_55
          refine lv_iconst (v := nI (1)) hx hb dX5_station_58 (by decide +kernel) ?_
          refine lv_goto (tgt := 63) hx hb dX5_station_59 (by decide) ?_
          exact J63 _ _ _ hW (tv.one (by have h1 := c_40; have h2 := c_55; rw [nI_toInt (by omega), nI_toInt (by omega)] at h1; rw [nI_toInt (by omega), nI_toInt (by omega)] at h2; unfold rg; omega))
  ·
    refine lv_aload_n hx hb dX5_station_0 rfl (lv_at hl 0 rfl) ?_
    refine lv_iload_n hx hb dX5_station_1 rfl (lv_at hl 1 rfl) ?_
    refine xv_i (As := [.int (t)]) (rest := []) ⟨hx, hb, hml, hown, hts⟩ (c_X5_isThing l D sa xa G0 σ ρ la hB t) (cwV 1 hts gX5_station_X5_isThing rfl rfl rfl (by decide +kernel) ⟨Nat.le_of_ble_eq_true rfl, Nat.le_of_ble_eq_true rfl⟩) hW (mG_obj _ _ _ _ _ _) rfl rfl rfl rfl hl.1 (Nat.le_of_ble_eq_true rfl) dX5_station_2 ⟨Nat.le_of_ble_eq_true rfl, Nat.le_of_ble_eq_true rfl⟩ (fun r_2 xa1 G1 H locs hp hW => ?_)
    obtain ⟨hu, hr_2⟩ := hp
    cases hu
    refine lv_if_eq (tgt := 28) hx hb dX5_station_5 (by decide) (fun c_5 => ?_) (fun c_5 => ?_)
    · -- eq taken
      have c_5 := hr_2.f c_5
      refine lv_iconst (v := nI (0)) hx hb dX5_station_28 (by decide +kernel) ?_
      exact J29 _ _ _ hW (tv.zero (by first | exact fun h => c_5 h.1 | exact fun h => c_13 h.2.1 | exact fun h => c_21 h.2.2))
    · -- eq not
      have c_5 := hr_2.t c_5
      refine lv_aload_n hx hb dX5_station_8 rfl (lv_at hl 0 rfl) ?_
      refine lv_iload_n hx hb dX5_station_9 rfl (lv_at hl 2 rfl) ?_
      refine xv_i (As := [.int (q)]) (rest := []) ⟨hx, hb, hml, hown, hts⟩ (c_X5_isPerson l D sa xa G0 σ ρ la hB q) (cwV 1 hts gX5_station_X5_isPerson rfl rfl rfl (by decide +kernel) ⟨Nat.le_of_ble_eq_true rfl, Nat.le_of_ble_eq_true rfl⟩) hW (mG_obj _ _ _ _ _ _) rfl rfl rfl rfl hl.1 (Nat.le_of_ble_eq_true rfl) dX5_station_10 ⟨Nat.le_of_ble_eq_true rfl, Nat.le_of_ble_eq_true rfl⟩ (fun r_10 xa1 G1 H locs hp hW => ?_)
      obtain ⟨hu, hr_10⟩ := hp
      cases hu
      refine lv_if_eq (tgt := 28) hx hb dX5_station_13 (by decide) (fun c_13 => ?_) (fun c_13 => ?_)
      · -- eq taken
        have c_13 := hr_10.f c_13
        refine lv_iconst (v := nI (0)) hx hb dX5_station_28 (by decide +kernel) ?_
        exact J29 _ _ _ hW (tv.zero (by first | exact fun h => c_5 h.1 | exact fun h => c_13 h.2.1 | exact fun h => c_21 h.2.2))
      · -- eq not
        have c_13 := hr_10.t c_13
        refine lv_iload hx hb dX5_station_16 (lv_at hl 4 rfl) ?_
        refine xs_i (As := [.int (a)]) (rest := []) ⟨hx, hb, hml, hown, hts⟩ (c_X5_isLand l D sa xa (mG G0 D xa σ ρ la) (a)) (va_cwS 1 hts gX5_station_X5_isLand rfl rfl rfl (by decide +kernel) ⟨Nat.le_of_ble_eq_true rfl, Nat.le_of_ble_eq_true rfl⟩) hW rfl rfl hl.1 (Nat.le_of_ble_eq_true rfl) dX5_station_18 ⟨Nat.le_of_ble_eq_true rfl, Nat.le_of_ble_eq_true rfl⟩ (fun r_18 xa1 G1 H locs hp hW => ?_)
        obtain ⟨hu, hr_18⟩ := hp
        cases hu
        refine lv_if_eq (tgt := 28) hx hb dX5_station_21 (by decide) (fun c_21 => ?_) (fun c_21 => ?_)
        · -- eq taken
          have c_21 := hr_18.f c_21
          refine lv_iconst (v := nI (0)) hx hb dX5_station_28 (by decide +kernel) ?_
          exact J29 _ _ _ hW (tv.zero (by first | exact fun h => c_5 h.1 | exact fun h => c_13 h.2.1 | exact fun h => c_21 h.2.2))
        · -- eq not
          have c_21 := hr_18.t c_21
          refine lv_iconst (v := nI (1)) hx hb dX5_station_24 (by decide +kernel) ?_
          refine lv_goto (tgt := 29) hx hb dX5_station_25 (by decide) ?_
          exact J29 _ _ _ hW (tv.one (⟨c_5, c_13, c_21⟩))
