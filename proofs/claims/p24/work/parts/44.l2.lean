/-! THE LAW: losses, holders, likeness, owners -/
set_option maxHeartbeats 4000000 in
set_option maxRecDepth 100000 in
theorem c_L_isLoss (l : Launch) (D : xD) (sa : Nat → Nat) (xa : xA) (G : xG) (σ : Sg) (hI : LI σ) (hA : LAs D G σ) (t q : Nat) (ht : t < 3) (hq : q < σ 11 t) : xCi l yL_isLoss wsL_isLoss ({ frames := 12, cells := 0, slots := 0, locals := 300 } : Room) D sa xa G [.ref (xa 40 0), .ref (xa 42 0), .ref (xa 44 0), .ref (xa 45 0), .int (nI (t)), .int (nI (q))] (fun r u => u = (xa, G) ∧ tv r (lossO σ t (ordr σ t) q)) 0 0 := by
  have hg := hI.1
  have hB := hg.1
  have h5 := hI.2.1
  have h12 := hI.2.2.1
  have h7 := hI.2.2.2
  have hs8 := hg.hs8
  have hy0 := hg.2.1.2.2.2.1
  have hy1 := hg.2.1.2.2.2.2
  have h8t := hs8 t
  intro sz
  refine Met.ofW (cc := cL_isLoss) (maxL := 10) (ret := (some .boolean)) (by decide +kernel) rfl ?_
  intro p e s m args below meth c s₁ B hml hv
  obtain ⟨rfl, hsz, hv2⟩ := hv
  subst hsz
  have hx := B.exec
  have hb := B.bytes
  have hr := B.returns
  have hts := atoms_spec (ws := wsL_isLoss) B.pre
  have hown : s.vm.findClass RL = some m.cls := findClass_of_methodNamed B.named
  have hlocks := B.notSynchronized
  have hW := xW.start (s := s) ⟨rfl, hv2⟩
  clear hv2
  generalize xAw xa (G) s.heap.size = A at hW ⊢
  have hl := lv_entry ([.ref (xa 40 0), .ref (xa 42 0), .ref (xa 44 0), .ref (xa 45 0), .int (nI (t)), .int (nI (q))]) (n := 10) (Nat.le_of_ble_eq_true rfl)
  rw [lg_entry_eq]
  generalize (lg_sl ([.ref (xa 40 0), .ref (xa 42 0), .ref (xa 44 0), .ref (xa 45 0), .int (nI (t)), .int (nI (q))]) ++ List.replicate (10 - (lg_sl ([.ref (xa 40 0), .ref (xa 42 0), .ref (xa 44 0), .ref (xa 45 0), .int (nI (t)), .int (nI (q))])).length) Slot.unset).toArray = ls at hl ⊢
  have hl : lv_has ls 10 [(0, .ref (xa 40 0)), (1, .ref (xa 42 0)), (2, .ref (xa 44 0)), (3, .ref (xa 45 0)), (4, .int (nI (t))), (5, .int (nI (q)))] := hl
  refine lv_iload hx hb dL_isLoss_0 (lv_at hl 5 rfl) ?_
  refine lv_if_ne (tgt := 7) hx hb dL_isLoss_2 (by decide) (fun c_2 => ?_) (fun c_2 => ?_)
  · -- ne taken
    have c_2 : ¬ (q = 0) := fun h_ => c_2 ((x_eqZ (a := q) (by omega)).mpr h_)
    have hq0 : q ≠ 0 := c_2
    refine lv_aload_n hx hb dL_isLoss_7 rfl (lv_at hl 2 rfl) ?_
    refine lv_bipush (v := nI (8)) hx hb dL_isLoss_8 (by decide +kernel) ?_
    refine lv_iload hx hb dL_isLoss_10 (lv_at hl 4 rfl) ?_
    refine lv_imul hx hb dL_isLoss_12 ?_
    rw [pk_mul]
    refine lv_aload_n hx hb dL_isLoss_13 rfl (lv_at hl 2 rfl) ?_
    refine lv_aload_n hx hb dL_isLoss_14 rfl (lv_at hl 3 rfl) ?_
    refine lv_iload hx hb dL_isLoss_15 (lv_at hl 4 rfl) ?_
    refine lv_iload hx hb dL_isLoss_17 (lv_at hl 5 rfl) ?_
    refine xs_i (As := [.ref (xa 44 0), .ref (xa 45 0), .int (nI (t)), .int (nI (q))]) (rest := [.int (nI (8 * t)), .ref (xa 44 0)]) ⟨hx, hb, hml, hown, hts⟩ (c_L_at l D sa xa G σ hI hA t q (by omega) (by omega)) (va_cwS 4 hts gL_isLoss_L_at rfl rfl rfl (by decide +kernel) ⟨Nat.le_of_ble_eq_true rfl, Nat.le_of_ble_eq_true rfl⟩) hW rfl rfl hl.1 (Nat.le_of_ble_eq_true rfl) dL_isLoss_19 ⟨Nat.le_of_ble_eq_true rfl, Nat.le_of_ble_eq_true rfl⟩ (fun r_19 xa1 G1 H locs hp hW => ?_)
    obtain ⟨hu, hr_19⟩ := hp
    cases hu
    subst hr_19
    have bo_19 := ordr_lt (σ := σ) (i := t) (q := q) (by omega)
    refine lv_iadd hx hb dL_isLoss_22 ?_
    rw [nI_add]
    refine x_ild hx hb hW 44 0 (LA_44 hA) (8 * t + ordr σ t q) rfl (by omega) (by omega) (v := nI (cpv σ (8 * t + ordr σ t q))) rfl dL_isLoss_23 ?_
    have b_23 := LI.cp hI (t := t) (k := ordr σ t q) (by omega) (by omega)
    refine lv_istore (lv' := [(6, .int (nI (cpv σ (8 * t + ordr σ t q)))), (0, .ref (xa 40 0)), (1, .ref (xa 42 0)), (2, .ref (xa 44 0)), (3, .ref (xa 45 0)), (4, .int (nI (t))), (5, .int (nI (q)))]) hx hb dL_isLoss_24 hl (by decide) rfl (fun ls hl => ?_)
    have hl : lv_has ls 10 [(0, .ref (xa 40 0)), (1, .ref (xa 42 0)), (2, .ref (xa 44 0)), (3, .ref (xa 45 0)), (4, .int (nI (t))), (5, .int (nI (q))), (6, .int (nI (cpv σ (8 * t + ordr σ t q))))] := lv_sub hl [1, 2, 3, 4, 5, 6, 0] rfl
    refine lv_aload_n hx hb dL_isLoss_26 rfl (lv_at hl 2 rfl) ?_
    refine lv_bipush (v := nI (8)) hx hb dL_isLoss_27 (by decide +kernel) ?_
    refine lv_iload hx hb dL_isLoss_29 (lv_at hl 4 rfl) ?_
    refine lv_imul hx hb dL_isLoss_31 ?_
    rw [pk_mul]
    refine lv_aload_n hx hb dL_isLoss_32 rfl (lv_at hl 2 rfl) ?_
    refine lv_aload_n hx hb dL_isLoss_33 rfl (lv_at hl 3 rfl) ?_
    refine lv_iload hx hb dL_isLoss_34 (lv_at hl 4 rfl) ?_
    refine lv_iload hx hb dL_isLoss_36 (lv_at hl 5 rfl) ?_
    refine lv_iconst (v := nI (1)) hx hb dL_isLoss_38 (by decide +kernel) ?_
    refine lv_isub hx hb dL_isLoss_39 ?_
    rw [pk_sub (a := q) (b := 1) (by omega)]
    refine xs_i (As := [.ref (xa 44 0), .ref (xa 45 0), .int (nI (t)), .int (nI (q - 1))]) (rest := [.int (nI (8 * t)), .ref (xa 44 0)]) ⟨hx, hb, hml, hown, hts⟩ (c_L_at l D sa xa G σ hI hA t (q - 1) (by omega) (by omega)) (va_cwS 4 hts gL_isLoss_L_at rfl rfl rfl (by decide +kernel) ⟨Nat.le_of_ble_eq_true rfl, Nat.le_of_ble_eq_true rfl⟩) hW rfl rfl hl.1 (Nat.le_of_ble_eq_true rfl) dL_isLoss_40 ⟨Nat.le_of_ble_eq_true rfl, Nat.le_of_ble_eq_true rfl⟩ (fun r_40 xa1 G1 H locs hp hW => ?_)
    obtain ⟨hu, hr_40⟩ := hp
    cases hu
    subst hr_40
    have bo_40 := ordr_lt (σ := σ) (i := t) (q := q - 1) (by omega)
    refine lv_iadd hx hb dL_isLoss_43 ?_
    rw [nI_add]
    refine x_ild hx hb hW 44 0 (LA_44 hA) (8 * t + ordr σ t (q - 1)) rfl (by omega) (by omega) (v := nI (cpv σ (8 * t + ordr σ t (q - 1)))) rfl dL_isLoss_44 ?_
    have b_44 := LI.cp hI (t := t) (k := ordr σ t (q - 1)) (by omega) (by omega)
    refine lv_bipush (v := nI (15)) hx hb dL_isLoss_45 (by decide +kernel) ?_
    refine lv_iand hx hb dL_isLoss_47 ?_
    rw [cp_p b_44]
    have bb_47 := b_44
    unfold cpo at bb_47
    refine lv_istore (lv' := [(7, .int (nI (σ 13 (8 * t + ordr σ t (q - 1))))), (0, .ref (xa 40 0)), (1, .ref (xa 42 0)), (2, .ref (xa 44 0)), (3, .ref (xa 45 0)), (4, .int (nI (t))), (5, .int (nI (q))), (6, .int (nI (cpv σ (8 * t + ordr σ t q))))]) hx hb dL_isLoss_48 hl (by decide) rfl (fun ls hl => ?_)
    have hl : lv_has ls 10 [(0, .ref (xa 40 0)), (1, .ref (xa 42 0)), (2, .ref (xa 44 0)), (3, .ref (xa 45 0)), (4, .int (nI (t))), (5, .int (nI (q))), (6, .int (nI (cpv σ (8 * t + ordr σ t q)))), (7, .int (nI (σ 13 (8 * t + ordr σ t (q - 1)))))] := lv_sub hl [1, 2, 3, 4, 5, 6, 7, 0] rfl
    refine lv_iload hx hb dL_isLoss_50 (lv_at hl 6 rfl) ?_
    refine lv_iconst (v := nI (4)) hx hb dL_isLoss_52 (by decide +kernel) ?_
    refine lv_ishr hx hb dL_isLoss_53 ?_
    rw [bt_shr (m := cpv σ (8 * t + ordr σ t q)) (b := 4) (cp_lt b_23) (by omega)]
    refine lv_bipush (v := nI (15)) hx hb dL_isLoss_54 (by decide +kernel) ?_
    refine lv_iand hx hb dL_isLoss_56 ?_
    rw [cp_k b_23]
    have bb_56 := b_23
    unfold cpo at bb_56
    refine lv_istore (lv' := [(8, .int (nI (σ 14 (8 * t + ordr σ t q)))), (0, .ref (xa 40 0)), (1, .ref (xa 42 0)), (2, .ref (xa 44 0)), (3, .ref (xa 45 0)), (4, .int (nI (t))), (5, .int (nI (q))), (6, .int (nI (cpv σ (8 * t + ordr σ t q)))), (7, .int (nI (σ 13 (8 * t + ordr σ t (q - 1)))))]) hx hb dL_isLoss_57 hl (by decide) rfl (fun ls hl => ?_)
    have hl : lv_has ls 10 [(0, .ref (xa 40 0)), (1, .ref (xa 42 0)), (2, .ref (xa 44 0)), (3, .ref (xa 45 0)), (4, .int (nI (t))), (5, .int (nI (q))), (6, .int (nI (cpv σ (8 * t + ordr σ t q)))), (7, .int (nI (σ 13 (8 * t + ordr σ t (q - 1))))), (8, .int (nI (σ 14 (8 * t + ordr σ t q))))] := lv_sub hl [1, 2, 3, 4, 5, 6, 7, 8, 0] rfl
    refine lv_iload hx hb dL_isLoss_59 (lv_at hl 8 rfl) ?_
    refine lv_if_ne (tgt := 110) hx hb dL_isLoss_61 (by decide) (fun c_61 => ?_) (fun c_61 => ?_)
    · -- ne taken
      have c_61 : ¬ (σ 14 (8 * t + ordr σ t q) = 0) := fun h_ => c_61 ((x_eqZ (a := σ 14 (8 * t + ordr σ t q)) (by omega)).mpr h_)
      refine lv_iconst (v := nI (0)) hx hb dL_isLoss_110 (by decide +kernel) ?_
      refine lv_istore (lv' := [(9, .int (nI (0))), (0, .ref (xa 40 0)), (1, .ref (xa 42 0)), (2, .ref (xa 44 0)), (3, .ref (xa 45 0)), (4, .int (nI (t))), (5, .int (nI (q))), (6, .int (nI (cpv σ (8 * t + ordr σ t q)))), (7, .int (nI (σ 13 (8 * t + ordr σ t (q - 1))))), (8, .int (nI (σ 14 (8 * t + ordr σ t q))))]) hx hb dL_isLoss_111 hl (by decide) rfl (fun ls hl => ?_)
      have hl : lv_has ls 10 [(0, .ref (xa 40 0)), (1, .ref (xa 42 0)), (2, .ref (xa 44 0)), (3, .ref (xa 45 0)), (4, .int (nI (t))), (5, .int (nI (q))), (6, .int (nI (cpv σ (8 * t + ordr σ t q)))), (7, .int (nI (σ 13 (8 * t + ordr σ t (q - 1))))), (8, .int (nI (σ 14 (8 * t + ordr σ t q)))), (9, .int (nI (0)))] := lv_sub hl [1, 2, 3, 4, 5, 6, 7, 8, 9, 0] rfl
      refine lv_iload hx hb dL_isLoss_113 (lv_at hl 8 rfl) ?_
      refine lv_iconst (v := nI (2)) hx hb dL_isLoss_115 (by decide +kernel) ?_
      refine lv_icmp_gt (tgt := 124) hx hb dL_isLoss_116 (by decide) (fun c_116 => ?_) (fun c_116 => ?_)
      · -- gt taken
        have c_116 := Int32.lt_iff_toInt_lt.mp c_116
        rw [nI_toInt (n := σ 14 (8 * t + ordr σ t q)) (by omega)] at c_116
        rw [nI_toInt (n := 2) (by omega)] at c_116
        refine lv_iconst (v := nI (1)) hx hb dL_isLoss_124 (by decide +kernel) ?_
        refine lv_goto (tgt := 129) hx hb dL_isLoss_125 (by decide) ?_
        exact xe_i hx hb hr rfl hlocks hW ⟨rfl, tv.one ⟨hq0, Or.inl (by omega)⟩⟩ (Nat.le_of_ble_eq_true rfl) (Nat.le_of_ble_eq_true rfl) dL_isLoss_129
      · -- gt not
        have c_116 : ¬ ((nI (2)).toInt < (nI (σ 14 (8 * t + ordr σ t q))).toInt) := fun h => c_116 (Int32.lt_iff_toInt_lt.mpr h)
        rw [nI_toInt (n := σ 14 (8 * t + ordr σ t q)) (by omega)] at c_116
        rw [nI_toInt (n := 2) (by omega)] at c_116
        refine lv_iload hx hb dL_isLoss_119 (lv_at hl 9 rfl) ?_
        refine lv_if_eq (tgt := 128) hx hb dL_isLoss_121 (by decide) (fun c_121 => ?_) (fun c_121 => ?_)
        · -- eq taken
          refine lv_iconst (v := nI (0)) hx hb dL_isLoss_128 (by decide +kernel) ?_
          exact xe_i hx hb hr rfl hlocks hW ⟨rfl, tv.zero (fun z => z.2.elim (fun z => absurd z (by omega)) (fun z => by have z1 := z.1; have z2 := z.2.1; omega))⟩ (Nat.le_of_ble_eq_true rfl) (Nat.le_of_ble_eq_true rfl) dL_isLoss_129
        · -- eq not
          exact absurd (by decide) c_121
    · -- ne not
      have c_61 := (x_eqZ (a := σ 14 (8 * t + ordr σ t q)) (by omega)).mp c_61
      refine lv_iload hx hb dL_isLoss_64 (lv_at hl 6 rfl) ?_
      refine lv_bipush (v := nI (24)) hx hb dL_isLoss_66 (by decide +kernel) ?_
      refine lv_ishr hx hb dL_isLoss_68 ?_
      rw [bt_shr (m := cpv σ (8 * t + ordr σ t q)) (b := 24) (cp_lt b_23) (by omega)]
      refine lv_iconst (v := nI (1)) hx hb dL_isLoss_69 (by decide +kernel) ?_
      refine lv_iand hx hb dL_isLoss_70 ?_
      rw [cp_r b_23]
      have bb_70 := b_23
      unfold cpo at bb_70
      refine lv_if_ne (tgt := 110) hx hb dL_isLoss_71 (by decide) (fun c_71 => ?_) (fun c_71 => ?_)
      · -- ne taken
        have c_71 : ¬ (σ 17 (8 * t + ordr σ t q) = 0) := fun h_ => c_71 ((x_eqZ (a := σ 17 (8 * t + ordr σ t q)) (by omega)).mpr h_)
        refine lv_iconst (v := nI (0)) hx hb dL_isLoss_110 (by decide +kernel) ?_
        refine lv_istore (lv' := [(9, .int (nI (0))), (0, .ref (xa 40 0)), (1, .ref (xa 42 0)), (2, .ref (xa 44 0)), (3, .ref (xa 45 0)), (4, .int (nI (t))), (5, .int (nI (q))), (6, .int (nI (cpv σ (8 * t + ordr σ t q)))), (7, .int (nI (σ 13 (8 * t + ordr σ t (q - 1))))), (8, .int (nI (σ 14 (8 * t + ordr σ t q))))]) hx hb dL_isLoss_111 hl (by decide) rfl (fun ls hl => ?_)
        have hl : lv_has ls 10 [(0, .ref (xa 40 0)), (1, .ref (xa 42 0)), (2, .ref (xa 44 0)), (3, .ref (xa 45 0)), (4, .int (nI (t))), (5, .int (nI (q))), (6, .int (nI (cpv σ (8 * t + ordr σ t q)))), (7, .int (nI (σ 13 (8 * t + ordr σ t (q - 1))))), (8, .int (nI (σ 14 (8 * t + ordr σ t q)))), (9, .int (nI (0)))] := lv_sub hl [1, 2, 3, 4, 5, 6, 7, 8, 9, 0] rfl
        refine lv_iload hx hb dL_isLoss_113 (lv_at hl 8 rfl) ?_
        refine lv_iconst (v := nI (2)) hx hb dL_isLoss_115 (by decide +kernel) ?_
        refine lv_icmp_gt (tgt := 124) hx hb dL_isLoss_116 (by decide) (fun c_116 => ?_) (fun c_116 => ?_)
        · -- gt taken
          have c_116 := Int32.lt_iff_toInt_lt.mp c_116
          rw [nI_toInt (n := σ 14 (8 * t + ordr σ t q)) (by omega)] at c_116
          rw [nI_toInt (n := 2) (by omega)] at c_116
          refine lv_iconst (v := nI (1)) hx hb dL_isLoss_124 (by decide +kernel) ?_
          refine lv_goto (tgt := 129) hx hb dL_isLoss_125 (by decide) ?_
          exact xe_i hx hb hr rfl hlocks hW ⟨rfl, tv.one ⟨hq0, Or.inl (by omega)⟩⟩ (Nat.le_of_ble_eq_true rfl) (Nat.le_of_ble_eq_true rfl) dL_isLoss_129
        · -- gt not
          have c_116 : ¬ ((nI (2)).toInt < (nI (σ 14 (8 * t + ordr σ t q))).toInt) := fun h => c_116 (Int32.lt_iff_toInt_lt.mpr h)
          rw [nI_toInt (n := σ 14 (8 * t + ordr σ t q)) (by omega)] at c_116
          rw [nI_toInt (n := 2) (by omega)] at c_116
          refine lv_iload hx hb dL_isLoss_119 (lv_at hl 9 rfl) ?_
          refine lv_if_eq (tgt := 128) hx hb dL_isLoss_121 (by decide) (fun c_121 => ?_) (fun c_121 => ?_)
          · -- eq taken
            refine lv_iconst (v := nI (0)) hx hb dL_isLoss_128 (by decide +kernel) ?_
            exact xe_i hx hb hr rfl hlocks hW ⟨rfl, tv.zero (fun z => z.2.elim (fun z => absurd z (by omega)) (fun z => by have z1 := z.1; have z2 := z.2.1; omega))⟩ (Nat.le_of_ble_eq_true rfl) (Nat.le_of_ble_eq_true rfl) dL_isLoss_129
          · -- eq not
            exact absurd (by decide) c_121
      · -- ne not
        have c_71 := (x_eqZ (a := σ 17 (8 * t + ordr σ t q)) (by omega)).mp c_71
        refine lv_aload_n hx hb dL_isLoss_74 rfl (lv_at hl 0 rfl) ?_
        refine lv_aload_n hx hb dL_isLoss_75 rfl (lv_at hl 1 rfl) ?_
        refine lv_aload_n hx hb dL_isLoss_76 rfl (lv_at hl 3 rfl) ?_
        refine lv_iload hx hb dL_isLoss_77 (lv_at hl 7 rfl) ?_
        refine lv_iload hx hb dL_isLoss_79 (lv_at hl 6 rfl) ?_
        refine lv_bipush (v := nI (8)) hx hb dL_isLoss_81 (by decide +kernel) ?_
        refine lv_ishr hx hb dL_isLoss_83 ?_
        rw [bt_shr (m := cpv σ (8 * t + ordr σ t q)) (b := 8) (cp_lt b_23) (by omega)]
        refine lv_bipush (v := nI (15)) hx hb dL_isLoss_84 (by decide +kernel) ?_
        refine lv_iand hx hb dL_isLoss_86 ?_
        rw [cp_a b_23]
        have bb_86 := b_23
        unfold cpo at bb_86
        refine lv_sipush (v := nI (1900)) hx hb dL_isLoss_87 (by decide +kernel) ?_
        refine lv_iload hx hb dL_isLoss_90 (lv_at hl 6 rfl) ?_
        refine lv_bipush (v := nI (12)) hx hb dL_isLoss_92 (by decide +kernel) ?_
        refine lv_ishr hx hb dL_isLoss_94 ?_
        rw [bt_shr (m := cpv σ (8 * t + ordr σ t q)) (b := 12) (cp_lt b_23) (by omega)]
        refine lv_sipush (v := nI (255)) hx hb dL_isLoss_95 (by decide +kernel) ?_
        refine lv_iand hx hb dL_isLoss_98 ?_
        rw [cp_y b_23]
        have bb_98 := b_23
        unfold cpo at bb_98
        refine lv_iadd hx hb dL_isLoss_99 ?_
        rw [nI_add, show 1900 + (σ 16 (8 * t + ordr σ t q) - 1900) = σ 16 (8 * t + ordr σ t q) by omega]
        refine xs_i (As := [.ref (xa 40 0), .ref (xa 42 0), .ref (xa 45 0), .int (nI (σ 13 (8 * t + ordr σ t (q - 1)))), .int (nI (σ 15 (8 * t + ordr σ t q))), .int (nI (σ 16 (8 * t + ordr σ t q)))]) (rest := []) ⟨hx, hb, hml, hown, hts⟩ (c_L_isPersecuted l D sa xa G σ hI hA (σ 13 (8 * t + ordr σ t (q - 1))) (σ 15 (8 * t + ordr σ t q)) (σ 16 (8 * t + ordr σ t q)) (by omega) (by omega) (by omega)) (va_cwS 6 hts gL_isLoss_L_isPersecuted rfl rfl rfl (by decide +kernel) ⟨Nat.le_of_ble_eq_true rfl, Nat.le_of_ble_eq_true rfl⟩) hW rfl rfl hl.1 (Nat.le_of_ble_eq_true rfl) dL_isLoss_100 ⟨Nat.le_of_ble_eq_true rfl, Nat.le_of_ble_eq_true rfl⟩ (fun r_100 xa1 G1 H locs hp hW => ?_)
        obtain ⟨hu, hr_100⟩ := hp
        cases hu
        refine lv_if_eq (tgt := 110) hx hb dL_isLoss_103 (by decide) (fun c_103 => ?_) (fun c_103 => ?_)
        · -- eq taken
          have c_103 := hr_100.f c_103
          refine lv_iconst (v := nI (0)) hx hb dL_isLoss_110 (by decide +kernel) ?_
          refine lv_istore (lv' := [(9, .int (nI (0))), (0, .ref (xa 40 0)), (1, .ref (xa 42 0)), (2, .ref (xa 44 0)), (3, .ref (xa 45 0)), (4, .int (nI (t))), (5, .int (nI (q))), (6, .int (nI (cpv σ (8 * t + ordr σ t q)))), (7, .int (nI (σ 13 (8 * t + ordr σ t (q - 1))))), (8, .int (nI (σ 14 (8 * t + ordr σ t q))))]) hx hb dL_isLoss_111 hl (by decide) rfl (fun ls hl => ?_)
          have hl : lv_has ls 10 [(0, .ref (xa 40 0)), (1, .ref (xa 42 0)), (2, .ref (xa 44 0)), (3, .ref (xa 45 0)), (4, .int (nI (t))), (5, .int (nI (q))), (6, .int (nI (cpv σ (8 * t + ordr σ t q)))), (7, .int (nI (σ 13 (8 * t + ordr σ t (q - 1))))), (8, .int (nI (σ 14 (8 * t + ordr σ t q)))), (9, .int (nI (0)))] := lv_sub hl [1, 2, 3, 4, 5, 6, 7, 8, 9, 0] rfl
          refine lv_iload hx hb dL_isLoss_113 (lv_at hl 8 rfl) ?_
          refine lv_iconst (v := nI (2)) hx hb dL_isLoss_115 (by decide +kernel) ?_
          refine lv_icmp_gt (tgt := 124) hx hb dL_isLoss_116 (by decide) (fun c_116 => ?_) (fun c_116 => ?_)
          · -- gt taken
            have c_116 := Int32.lt_iff_toInt_lt.mp c_116
            rw [nI_toInt (n := σ 14 (8 * t + ordr σ t q)) (by omega)] at c_116
            rw [nI_toInt (n := 2) (by omega)] at c_116
            refine lv_iconst (v := nI (1)) hx hb dL_isLoss_124 (by decide +kernel) ?_
            refine lv_goto (tgt := 129) hx hb dL_isLoss_125 (by decide) ?_
            exact xe_i hx hb hr rfl hlocks hW ⟨rfl, tv.one ⟨hq0, Or.inl (by omega)⟩⟩ (Nat.le_of_ble_eq_true rfl) (Nat.le_of_ble_eq_true rfl) dL_isLoss_129
          · -- gt not
            have c_116 : ¬ ((nI (2)).toInt < (nI (σ 14 (8 * t + ordr σ t q))).toInt) := fun h => c_116 (Int32.lt_iff_toInt_lt.mpr h)
            rw [nI_toInt (n := σ 14 (8 * t + ordr σ t q)) (by omega)] at c_116
            rw [nI_toInt (n := 2) (by omega)] at c_116
            refine lv_iload hx hb dL_isLoss_119 (lv_at hl 9 rfl) ?_
            refine lv_if_eq (tgt := 128) hx hb dL_isLoss_121 (by decide) (fun c_121 => ?_) (fun c_121 => ?_)
            · -- eq taken
              refine lv_iconst (v := nI (0)) hx hb dL_isLoss_128 (by decide +kernel) ?_
              exact xe_i hx hb hr rfl hlocks hW ⟨rfl, tv.zero (fun z => z.2.elim (fun z => absurd z (by omega)) (fun z => c_103 z.2.2))⟩ (Nat.le_of_ble_eq_true rfl) (Nat.le_of_ble_eq_true rfl) dL_isLoss_129
            · -- eq not
              exact absurd (by decide) c_121
        · -- eq not
          have c_103 := hr_100.t c_103
          refine lv_iconst (v := nI (1)) hx hb dL_isLoss_106 (by decide +kernel) ?_
          refine lv_goto (tgt := 111) hx hb dL_isLoss_107 (by decide) ?_
          refine lv_istore (lv' := [(9, .int (nI (1))), (0, .ref (xa 40 0)), (1, .ref (xa 42 0)), (2, .ref (xa 44 0)), (3, .ref (xa 45 0)), (4, .int (nI (t))), (5, .int (nI (q))), (6, .int (nI (cpv σ (8 * t + ordr σ t q)))), (7, .int (nI (σ 13 (8 * t + ordr σ t (q - 1))))), (8, .int (nI (σ 14 (8 * t + ordr σ t q))))]) hx hb dL_isLoss_111 hl (by decide) rfl (fun ls hl => ?_)
          have hl : lv_has ls 10 [(0, .ref (xa 40 0)), (1, .ref (xa 42 0)), (2, .ref (xa 44 0)), (3, .ref (xa 45 0)), (4, .int (nI (t))), (5, .int (nI (q))), (6, .int (nI (cpv σ (8 * t + ordr σ t q)))), (7, .int (nI (σ 13 (8 * t + ordr σ t (q - 1))))), (8, .int (nI (σ 14 (8 * t + ordr σ t q)))), (9, .int (nI (1)))] := lv_sub hl [1, 2, 3, 4, 5, 6, 7, 8, 9, 0] rfl
          refine lv_iload hx hb dL_isLoss_113 (lv_at hl 8 rfl) ?_
          refine lv_iconst (v := nI (2)) hx hb dL_isLoss_115 (by decide +kernel) ?_
          refine lv_icmp_gt (tgt := 124) hx hb dL_isLoss_116 (by decide) (fun c_116 => ?_) (fun c_116 => ?_)
          · -- gt taken
            have c_116 := Int32.lt_iff_toInt_lt.mp c_116
            rw [nI_toInt (n := σ 14 (8 * t + ordr σ t q)) (by omega)] at c_116
            rw [nI_toInt (n := 2) (by omega)] at c_116
            refine lv_iconst (v := nI (1)) hx hb dL_isLoss_124 (by decide +kernel) ?_
            refine lv_goto (tgt := 129) hx hb dL_isLoss_125 (by decide) ?_
            exact xe_i hx hb hr rfl hlocks hW ⟨rfl, tv.one ⟨hq0, Or.inr ⟨by omega, by omega, c_103⟩⟩⟩ (Nat.le_of_ble_eq_true rfl) (Nat.le_of_ble_eq_true rfl) dL_isLoss_129
          · -- gt not
            have c_116 : ¬ ((nI (2)).toInt < (nI (σ 14 (8 * t + ordr σ t q))).toInt) := fun h => c_116 (Int32.lt_iff_toInt_lt.mpr h)
            rw [nI_toInt (n := σ 14 (8 * t + ordr σ t q)) (by omega)] at c_116
            rw [nI_toInt (n := 2) (by omega)] at c_116
            refine lv_iload hx hb dL_isLoss_119 (lv_at hl 9 rfl) ?_
            refine lv_if_eq (tgt := 128) hx hb dL_isLoss_121 (by decide) (fun c_121 => ?_) (fun c_121 => ?_)
            · -- eq taken
              exact absurd c_121 (by decide)
            · -- eq not
              refine lv_iconst (v := nI (1)) hx hb dL_isLoss_124 (by decide +kernel) ?_
              refine lv_goto (tgt := 129) hx hb dL_isLoss_125 (by decide) ?_
              exact xe_i hx hb hr rfl hlocks hW ⟨rfl, tv.one ⟨hq0, Or.inr ⟨by omega, by omega, c_103⟩⟩⟩ (Nat.le_of_ble_eq_true rfl) (Nat.le_of_ble_eq_true rfl) dL_isLoss_129
  · -- ne not
    have c_2 := (x_eqZ (a := q) (by omega)).mp c_2
    refine lv_iconst (v := nI (0)) hx hb dL_isLoss_5 (by decide +kernel) ?_
    exact xe_i hx hb hr rfl hlocks hW ⟨rfl, tv.zero (fun z => absurd c_2 z.1)⟩ (Nat.le_of_ble_eq_true rfl) (Nat.le_of_ble_eq_true rfl) dL_isLoss_6

set_option maxHeartbeats 4000000 in
set_option maxRecDepth 100000 in
theorem c_L_holder (l : Launch) (D : xD) (sa : Nat → Nat) (xa : xA) (G : xG) (σ : Sg) (hI : LI σ) (hA : LAs D G σ) (t : Nat) (ht : t < 3) : xCi l yL_holder wsL_holder ({ frames := 12, cells := 0, slots := 0, locals := 300 } : Room) D sa xa G [.ref (xa 44 0), .ref (xa 45 0), .int (nI (t))] (fun r u => u = (xa, G) ∧ r = oi (hold σ t)) 0 0 := by
  have hg := hI.1
  have hB := hg.1
  have h5 := hI.2.1
  have h12 := hI.2.2.1
  have h7 := hI.2.2.2
  have hs8 := hg.hs8
  have hy0 := hg.2.1.2.2.2.1
  have hy1 := hg.2.1.2.2.2.2
  have h8t := hs8 t
  intro sz
  refine Met.ofW (cc := cL_holder) (maxL := 3) (ret := (some .int)) (by decide +kernel) rfl ?_
  intro p e s m args below meth c s₁ B hml hv
  obtain ⟨rfl, hsz, hv2⟩ := hv
  subst hsz
  have hx := B.exec
  have hb := B.bytes
  have hr := B.returns
  have hts := atoms_spec (ws := wsL_holder) B.pre
  have hown : s.vm.findClass RL = some m.cls := findClass_of_methodNamed B.named
  have hlocks := B.notSynchronized
  have hW := xW.start (s := s) ⟨rfl, hv2⟩
  clear hv2
  generalize xAw xa (G) s.heap.size = A at hW ⊢
  have hl := lv_entry ([.ref (xa 44 0), .ref (xa 45 0), .int (nI (t))]) (n := 3) (Nat.le_of_ble_eq_true rfl)
  rw [lg_entry_eq]
  generalize (lg_sl ([.ref (xa 44 0), .ref (xa 45 0), .int (nI (t))]) ++ List.replicate (3 - (lg_sl ([.ref (xa 44 0), .ref (xa 45 0), .int (nI (t))])).length) Slot.unset).toArray = ls at hl ⊢
  have hl : lv_has ls 3 [(0, .ref (xa 44 0)), (1, .ref (xa 45 0)), (2, .int (nI (t)))] := hl
  refine lv_aload_n hx hb dL_holder_0 rfl (lv_at hl 1 rfl) ?_
  refine lv_iconst (v := nI (2)) hx hb dL_holder_1 (by decide +kernel) ?_
  refine lv_iload_n hx hb dL_holder_2 rfl (lv_at hl 2 rfl) ?_
  refine lv_iadd hx hb dL_holder_3 ?_
  rw [nI_add]
  refine x_ild hx hb hW 45 0 (LA_45 hA) (2 + t) rfl (by omega) (by omega) (v := nI (σ 11 t)) (congrArg nI (mv_2 σ (t := t) (by omega))) dL_holder_4 ?_
  have b_4 := hB 11 t
  refine lv_if_ne (tgt := 12) hx hb dL_holder_5 (by decide) (fun c_5 => ?_) (fun c_5 => ?_)
  · -- ne taken
    have c_5 : ¬ (σ 11 t = 0) := fun h_ => c_5 ((x_eqZ (a := σ 11 t) (by omega)).mpr h_)
    refine lv_aload_n hx hb dL_holder_12 rfl (lv_at hl 0 rfl) ?_
    refine lv_bipush (v := nI (8)) hx hb dL_holder_13 (by decide +kernel) ?_
    refine lv_iload_n hx hb dL_holder_15 rfl (lv_at hl 2 rfl) ?_
    refine lv_imul hx hb dL_holder_16 ?_
    rw [pk_mul]
    refine lv_aload_n hx hb dL_holder_17 rfl (lv_at hl 0 rfl) ?_
    refine lv_aload_n hx hb dL_holder_18 rfl (lv_at hl 1 rfl) ?_
    refine lv_iload_n hx hb dL_holder_19 rfl (lv_at hl 2 rfl) ?_
    refine lv_aload_n hx hb dL_holder_20 rfl (lv_at hl 1 rfl) ?_
    refine lv_iconst (v := nI (2)) hx hb dL_holder_21 (by decide +kernel) ?_
    refine lv_iload_n hx hb dL_holder_22 rfl (lv_at hl 2 rfl) ?_
    refine lv_iadd hx hb dL_holder_23 ?_
    rw [nI_add]
    refine x_ild hx hb hW 45 0 (LA_45 hA) (2 + t) rfl (by omega) (by omega) (v := nI (σ 11 t)) (congrArg nI (mv_2 σ (t := t) (by omega))) dL_holder_24 ?_
    have b_24 := hB 11 t
    refine lv_iconst (v := nI (1)) hx hb dL_holder_25 (by decide +kernel) ?_
    refine lv_isub hx hb dL_holder_26 ?_
    rw [pk_sub (a := σ 11 t) (b := 1) (by omega)]
    refine xs_i (As := [.ref (xa 44 0), .ref (xa 45 0), .int (nI (t)), .int (nI ((σ 11 t) - 1))]) (rest := [.int (nI (8 * t)), .ref (xa 44 0)]) ⟨hx, hb, hml, hown, hts⟩ (c_L_at l D sa xa G σ hI hA t ((σ 11 t) - 1) (by omega) (by omega)) (va_cwS 4 hts gL_holder_L_at rfl rfl rfl (by decide +kernel) ⟨Nat.le_of_ble_eq_true rfl, Nat.le_of_ble_eq_true rfl⟩) hW rfl rfl hl.1 (Nat.le_of_ble_eq_true rfl) dL_holder_27 ⟨Nat.le_of_ble_eq_true rfl, Nat.le_of_ble_eq_true rfl⟩ (fun r_27 xa1 G1 H locs hp hW => ?_)
    obtain ⟨hu, hr_27⟩ := hp
    cases hu
    subst hr_27
    have bo_27 := ordr_lt (σ := σ) (i := t) (q := (σ 11 t) - 1) (by omega)
    refine lv_iadd hx hb dL_holder_30 ?_
    rw [nI_add]
    refine x_ild hx hb hW 44 0 (LA_44 hA) (8 * t + ordr σ t ((σ 11 t) - 1)) rfl (by omega) (by omega) (v := nI (cpv σ (8 * t + ordr σ t ((σ 11 t) - 1)))) rfl dL_holder_31 ?_
    have b_31 := LI.cp hI (t := t) (k := ordr σ t ((σ 11 t) - 1)) (by omega) (by omega)
    refine lv_bipush (v := nI (15)) hx hb dL_holder_32 (by decide +kernel) ?_
    refine lv_iand hx hb dL_holder_34 ?_
    rw [cp_p b_31]
    have bb_34 := b_31
    unfold cpo at bb_34
    exact xe_i hx hb hr rfl hlocks hW ⟨rfl, by unfold hold; rw [if_neg c_5]; rfl⟩ (Nat.le_of_ble_eq_true rfl) (Nat.le_of_ble_eq_true rfl) dL_holder_35
  · -- ne not
    have c_5 := (x_eqZ (a := σ 11 t) (by omega)).mp c_5
    refine lv_iconst (v := -1) hx hb dL_holder_8 (by decide +kernel) ?_
    refine lv_goto (tgt := 35) hx hb dL_holder_9 (by decide) ?_
    exact xe_i hx hb hr rfl hlocks hW ⟨rfl, by unfold hold; rw [if_pos c_5]; rfl⟩ (Nat.le_of_ble_eq_true rfl) (Nat.le_of_ble_eq_true rfl) dL_holder_35

set_option maxHeartbeats 4000000 in
set_option maxRecDepth 100000 in
theorem c_L_likeness (l : Launch) (D : xD) (sa : Nat → Nat) (xa : xA) (G : xG) (σ : Sg) (hI : LI σ) (hA : LAs D G σ) (i j : Nat) (hi : i < 3) (hj : j < 3) : xCi l yL_likeness wsL_likeness ({ frames := 10, cells := 0, slots := 0, locals := 200 } : Room) D sa xa G [.ref (xa 43 0), .int (nI (i)), .int (nI (j))] (fun r u => u = (xa, G) ∧ r.toInt = lk σ i j) 0 0 := by
  have hg := hI.1
  have hB := hg.1
  have h5 := hI.2.1
  have h12 := hI.2.2.1
  have h7 := hI.2.2.2
  have hs8 := hg.hs8
  have hy0 := hg.2.1.2.2.2.1
  have hy1 := hg.2.1.2.2.2.2
  have hzi := (hg.2.2.2.2.1 i (by omega)).1
  have hzj := (hg.2.2.2.2.1 j (by omega)).1
  intro sz
  refine Met.ofW (cc := cL_likeness) (maxL := 6) (ret := (some .int)) (by decide +kernel) rfl ?_
  intro p e s m args below meth c s₁ B hml hv
  obtain ⟨rfl, hsz, hv2⟩ := hv
  subst hsz
  have hx := B.exec
  have hb := B.bytes
  have hr := B.returns
  have hts := atoms_spec (ws := wsL_likeness) B.pre
  have hown : s.vm.findClass RL = some m.cls := findClass_of_methodNamed B.named
  have hlocks := B.notSynchronized
  have hW := xW.start (s := s) ⟨rfl, hv2⟩
  clear hv2
  generalize xAw xa (G) s.heap.size = A at hW ⊢
  have hl := lv_entry ([.ref (xa 43 0), .int (nI (i)), .int (nI (j))]) (n := 6) (Nat.le_of_ble_eq_true rfl)
  rw [lg_entry_eq]
  generalize (lg_sl ([.ref (xa 43 0), .int (nI (i)), .int (nI (j))]) ++ List.replicate (6 - (lg_sl ([.ref (xa 43 0), .int (nI (i)), .int (nI (j))])).length) Slot.unset).toArray = ls at hl ⊢
  have hl : lv_has ls 6 [(0, .ref (xa 43 0)), (1, .int (nI (i))), (2, .int (nI (j)))] := hl
  refine x_joinI (ls := ls) (D := D) (sa := sa) (A := A) (xa := xa) (G := G) (P := fun v_ => v_.toInt = -(if (σ 10 i : Int) - σ 10 j < 0 then -((σ 10 i : Int) - σ 10 j) else (σ 10 i : Int) - σ 10 j)) (mpc := 50) (rest := []) (fun H locs v_50 hW h_50 => ?_) (fun J50 => ?_)
  · try dsimp only at h_50
    refine lv_istore_n (lv' := [(3, .int (v_50)), (0, .ref (xa 43 0)), (1, .int (nI (i))), (2, .int (nI (j)))]) hx hb dL_likeness_50 rfl hl (by decide) rfl (fun ls hl => ?_)
    have hl : lv_has ls 6 [(0, .ref (xa 43 0)), (1, .int (nI (i))), (2, .int (nI (j))), (3, .int (v_50))] := lv_sub hl [1, 2, 3, 0] rfl
    refine lv_iconst (v := nI (0)) hx hb dL_likeness_51 (by decide +kernel) ?_
    refine lv_istore (lv' := [(4, .int (nI (0))), (0, .ref (xa 43 0)), (1, .int (nI (i))), (2, .int (nI (j))), (3, .int (v_50))]) hx hb dL_likeness_52 hl (by decide) rfl (fun ls hl => ?_)
    have hl : lv_has ls 6 [(0, .ref (xa 43 0)), (1, .int (nI (i))), (2, .int (nI (j))), (3, .int (v_50)), (4, .int (nI (0)))] := lv_sub hl [1, 2, 3, 4, 0] rfl
    obtain ⟨ab, hab⟩ : ∃ ab : Int, ab = (if (σ 10 i : Int) - σ 10 j < 0 then -((σ 10 i : Int) - σ 10 j) else (σ 10 i : Int) - σ 10 j) := ⟨_, rfl⟩
    rw [← hab] at h_50
    have hab1 : 0 ≤ ab ∧ ab ≤ 1000 := by rw [hab]; split <;> omega
    refine x_loop (X := Int32 × Nat) (I := fun n xv H locs ls => n = 16 - xv.2 ∧ xW D sa A s xa (G) H locs ∧ lv_has ls 6 [(0, .ref (xa 43 0)), (1, .int (nI (i))), (2, .int (nI (j))), (3, .int (xv.1)), (4, .int (nI (xv.2)))] ∧ (xv.1.toInt = 10 * (pcn (σ 9 i &&& σ 9 j) xv.2 : Int) - 5 * (pcn (σ 9 i ^^^ σ 9 j) xv.2 : Int) - ab) ∧ (xv.2 ≤ 16)) (hd := 54) ?_ (n := _) (x := (v_50, 0)) ⟨rfl, hW, hl, by rw [h_50]; show _ = 10 * ((0 : Nat) : Int) - 5 * ((0 : Nat) : Int) - ab; omega, by (try dsimp only); omega⟩
    rintro n ⟨its, k⟩ H locs ls ⟨hn, hW, hl, hits, hk⟩ ih54
    try dsimp only at hn hW hl hits hk
    refine lv_iload hx hb dL_likeness_54 (lv_at hl 4 rfl) ?_
    refine lv_bipush (v := nI (16)) hx hb dL_likeness_56 (by decide +kernel) ?_
    refine lv_icmp_ge (tgt := 116) hx hb dL_likeness_58 (by decide) (fun c_58 => ?_) (fun c_58 => ?_)
    · -- ge taken
      have c_58 := Int32.le_iff_toInt_le.mp c_58
      rw [nI_toInt (n := k) (by omega)] at c_58
      rw [nI_toInt (n := 16) (by omega)] at c_58
      refine lv_iload_n hx hb dL_likeness_116 rfl (lv_at hl 3 rfl) ?_
      exact xe_i hx hb hr rfl hlocks hW ⟨rfl, by rw [hits, show k = 16 by omega, hab]; rfl⟩ (Nat.le_of_ble_eq_true rfl) (Nat.le_of_ble_eq_true rfl) dL_likeness_117
    · -- ge not
      have c_58 : ¬ ((nI (16)).toInt ≤ (nI (k)).toInt) := fun h => c_58 (Int32.le_iff_toInt_le.mpr h)
      rw [nI_toInt (n := k) (by omega)] at c_58
      rw [nI_toInt (n := 16) (by omega)] at c_58
      have hk1 := pcn_le (σ 9 i &&& σ 9 j) k
      have hk2 := pcn_le (σ 9 i ^^^ σ 9 j) k
      have hbb := bit_ad (σ 9 i) (σ 9 j) k
      refine lv_aload_n hx hb dL_likeness_61 rfl (lv_at hl 0 rfl) ?_
      refine lv_iconst (v := nI (2)) hx hb dL_likeness_62 (by decide +kernel) ?_
      refine lv_iload_n hx hb dL_likeness_63 rfl (lv_at hl 1 rfl) ?_
      refine lv_imul hx hb dL_likeness_64 ?_
      rw [pk_mul]
      refine x_ild hx hb hW 43 0 (LA_43 hA) (2 * i) rfl (by omega) (by omega) (v := nI (σ 9 i)) (congrArg nI (tv_0 σ i)) dL_likeness_65 ?_
      have b_65 := hB 9 i
      refine lv_iload hx hb dL_likeness_66 (lv_at hl 4 rfl) ?_
      refine lv_ishr hx hb dL_likeness_68 ?_
      rw [bt_shr (m := σ 9 i) (b := k) (by omega) (by omega)]
      refine lv_iconst (v := nI (1)) hx hb dL_likeness_69 (by decide +kernel) ?_
      refine lv_iand hx hb dL_likeness_70 ?_
      rw [bt_and1]
      refine lv_aload_n hx hb dL_likeness_71 rfl (lv_at hl 0 rfl) ?_
      refine lv_iconst (v := nI (2)) hx hb dL_likeness_72 (by decide +kernel) ?_
      refine lv_iload_n hx hb dL_likeness_73 rfl (lv_at hl 2 rfl) ?_
      refine lv_imul hx hb dL_likeness_74 ?_
      rw [pk_mul]
      refine x_ild hx hb hW 43 0 (LA_43 hA) (2 * j) rfl (by omega) (by omega) (v := nI (σ 9 j)) (congrArg nI (tv_0 σ j)) dL_likeness_75 ?_
      have b_75 := hB 9 j
      refine lv_iload hx hb dL_likeness_76 (lv_at hl 4 rfl) ?_
      refine lv_ishr hx hb dL_likeness_78 ?_
      rw [bt_shr (m := σ 9 j) (b := k) (by omega) (by omega)]
      refine lv_iconst (v := nI (1)) hx hb dL_likeness_79 (by decide +kernel) ?_
      refine lv_iand hx hb dL_likeness_80 ?_
      rw [bt_and1]
      refine lv_iadd hx hb dL_likeness_81 ?_
      rw [nI_add]
      refine lv_istore (lv' := [(5, .int (nI ((((σ 9 i) / 2 ^ k) % 2) + (((σ 9 j) / 2 ^ k) % 2)))), (0, .ref (xa 43 0)), (1, .int (nI (i))), (2, .int (nI (j))), (3, .int (its)), (4, .int (nI (k)))]) hx hb dL_likeness_82 hl (by decide) rfl (fun ls hl => ?_)
      have hl : lv_has ls 6 [(0, .ref (xa 43 0)), (1, .int (nI (i))), (2, .int (nI (j))), (3, .int (its)), (4, .int (nI (k))), (5, .int (nI ((((σ 9 i) / 2 ^ k) % 2) + (((σ 9 j) / 2 ^ k) % 2))))] := lv_sub hl [1, 2, 3, 4, 5, 0] rfl
      refine lv_iload_n hx hb dL_likeness_84 rfl (lv_at hl 3 rfl) ?_
      refine lv_iload hx hb dL_likeness_85 (lv_at hl 5 rfl) ?_
      refine lv_iconst (v := nI (2)) hx hb dL_likeness_87 (by decide +kernel) ?_
      refine lv_icmp_ne (tgt := 96) hx hb dL_likeness_88 (by decide) (fun c_88 => ?_) (fun c_88 => ?_)
      · -- ne taken
        have c_88 : ¬ ((((σ 9 i) / 2 ^ k) % 2) + (((σ 9 j) / 2 ^ k) % 2) = 2) := fun h_ => c_88 ((x_eqN (a := (((σ 9 i) / 2 ^ k) % 2) + (((σ 9 j) / 2 ^ k) % 2)) (b := 2) (by omega) (by omega)).mpr h_)
        refine lv_iload hx hb dL_likeness_96 (lv_at hl 5 rfl) ?_
        refine lv_iconst (v := nI (1)) hx hb dL_likeness_98 (by decide +kernel) ?_
        refine lv_icmp_ne (tgt := 107) hx hb dL_likeness_99 (by decide) (fun c_99 => ?_) (fun c_99 => ?_)
        · -- ne taken
          have c_99 : ¬ ((((σ 9 i) / 2 ^ k) % 2) + (((σ 9 j) / 2 ^ k) % 2) = 1) := fun h_ => c_99 ((x_eqN (a := (((σ 9 i) / 2 ^ k) % 2) + (((σ 9 j) / 2 ^ k) % 2)) (b := 1) (by omega) (by omega)).mpr h_)
          refine lv_iconst (v := nI (0)) hx hb dL_likeness_107 (by decide +kernel) ?_
          refine lv_iadd hx hb dL_likeness_108 ?_
          refine lv_istore_n (lv' := [(3, .int ((its) + (nI (0)))), (0, .ref (xa 43 0)), (1, .int (nI (i))), (2, .int (nI (j))), (4, .int (nI (k))), (5, .int (nI ((((σ 9 i) / 2 ^ k) % 2) + (((σ 9 j) / 2 ^ k) % 2))))]) hx hb dL_likeness_109 rfl hl (by decide) rfl (fun ls hl => ?_)
          have hl : lv_has ls 6 [(0, .ref (xa 43 0)), (1, .int (nI (i))), (2, .int (nI (j))), (3, .int ((its) + (nI (0)))), (4, .int (nI (k))), (5, .int (nI ((((σ 9 i) / 2 ^ k) % 2) + (((σ 9 j) / 2 ^ k) % 2))))] := lv_sub hl [1, 2, 3, 0, 4, 5] rfl
          refine lv_iinc (v := nI (k + 1)) (lv' := [(4, .int (nI (k + 1))), (0, .ref (xa 43 0)), (1, .int (nI (i))), (2, .int (nI (j))), (3, .int ((its) + (nI (0)))), (5, .int (nI ((((σ 9 i) / 2 ^ k) % 2) + (((σ 9 j) / 2 ^ k) % 2))))]) hx hb dL_likeness_110 hl (k := 4) rfl (x_inc k 1 rfl) (by decide) rfl (fun ls hl => ?_)
          have hl : lv_has ls 6 [(0, .ref (xa 43 0)), (1, .int (nI (i))), (2, .int (nI (j))), (3, .int ((its) + (nI (0)))), (4, .int (nI (k + 1))), (5, .int (nI ((((σ 9 i) / 2 ^ k) % 2) + (((σ 9 j) / 2 ^ k) % 2))))] := lv_sub hl [1, 2, 3, 4, 0, 5] rfl
          refine lv_goto (tgt := 54) hx hb dL_likeness_113 (by decide) ?_
          exact ih54 (16 - (k + 1)) ((its) + (nI (0)), k + 1) _ _ _ (by omega) ⟨rfl, hW, lv_sub hl [0, 1, 2, 3, 4] rfl, lk_step0 hits hk1 hk2 hab1.1 hab1.2 (by omega) hbb, by (try dsimp only); omega⟩
        · -- ne not
          have c_99 := (x_eqN (a := (((σ 9 i) / 2 ^ k) % 2) + (((σ 9 j) / 2 ^ k) % 2)) (b := 1) (by omega) (by omega)).mp c_99
          refine lv_bipush (v := -5) hx hb dL_likeness_102 (by decide +kernel) ?_
          refine lv_goto (tgt := 108) hx hb dL_likeness_104 (by decide) ?_
          refine lv_iadd hx hb dL_likeness_108 ?_
          refine lv_istore_n (lv' := [(3, .int ((its) + (-5))), (0, .ref (xa 43 0)), (1, .int (nI (i))), (2, .int (nI (j))), (4, .int (nI (k))), (5, .int (nI ((((σ 9 i) / 2 ^ k) % 2) + (((σ 9 j) / 2 ^ k) % 2))))]) hx hb dL_likeness_109 rfl hl (by decide) rfl (fun ls hl => ?_)
          have hl : lv_has ls 6 [(0, .ref (xa 43 0)), (1, .int (nI (i))), (2, .int (nI (j))), (3, .int ((its) + (-5))), (4, .int (nI (k))), (5, .int (nI ((((σ 9 i) / 2 ^ k) % 2) + (((σ 9 j) / 2 ^ k) % 2))))] := lv_sub hl [1, 2, 3, 0, 4, 5] rfl
          refine lv_iinc (v := nI (k + 1)) (lv' := [(4, .int (nI (k + 1))), (0, .ref (xa 43 0)), (1, .int (nI (i))), (2, .int (nI (j))), (3, .int ((its) + (-5))), (5, .int (nI ((((σ 9 i) / 2 ^ k) % 2) + (((σ 9 j) / 2 ^ k) % 2))))]) hx hb dL_likeness_110 hl (k := 4) rfl (x_inc k 1 rfl) (by decide) rfl (fun ls hl => ?_)
          have hl : lv_has ls 6 [(0, .ref (xa 43 0)), (1, .int (nI (i))), (2, .int (nI (j))), (3, .int ((its) + (-5))), (4, .int (nI (k + 1))), (5, .int (nI ((((σ 9 i) / 2 ^ k) % 2) + (((σ 9 j) / 2 ^ k) % 2))))] := lv_sub hl [1, 2, 3, 4, 0, 5] rfl
          refine lv_goto (tgt := 54) hx hb dL_likeness_113 (by decide) ?_
          exact ih54 (16 - (k + 1)) ((its) + (-5), k + 1) _ _ _ (by omega) ⟨rfl, hW, lv_sub hl [0, 1, 2, 3, 4] rfl, lk_step1 hits hk1 hk2 hab1.1 hab1.2 (by omega) hbb, by (try dsimp only); omega⟩
      · -- ne not
        have c_88 := (x_eqN (a := (((σ 9 i) / 2 ^ k) % 2) + (((σ 9 j) / 2 ^ k) % 2)) (b := 2) (by omega) (by omega)).mp c_88
        refine lv_bipush (v := nI (10)) hx hb dL_likeness_91 (by decide +kernel) ?_
        refine lv_goto (tgt := 108) hx hb dL_likeness_93 (by decide) ?_
        refine lv_iadd hx hb dL_likeness_108 ?_
        refine lv_istore_n (lv' := [(3, .int ((its) + (nI (10)))), (0, .ref (xa 43 0)), (1, .int (nI (i))), (2, .int (nI (j))), (4, .int (nI (k))), (5, .int (nI ((((σ 9 i) / 2 ^ k) % 2) + (((σ 9 j) / 2 ^ k) % 2))))]) hx hb dL_likeness_109 rfl hl (by decide) rfl (fun ls hl => ?_)
        have hl : lv_has ls 6 [(0, .ref (xa 43 0)), (1, .int (nI (i))), (2, .int (nI (j))), (3, .int ((its) + (nI (10)))), (4, .int (nI (k))), (5, .int (nI ((((σ 9 i) / 2 ^ k) % 2) + (((σ 9 j) / 2 ^ k) % 2))))] := lv_sub hl [1, 2, 3, 0, 4, 5] rfl
        refine lv_iinc (v := nI (k + 1)) (lv' := [(4, .int (nI (k + 1))), (0, .ref (xa 43 0)), (1, .int (nI (i))), (2, .int (nI (j))), (3, .int ((its) + (nI (10)))), (5, .int (nI ((((σ 9 i) / 2 ^ k) % 2) + (((σ 9 j) / 2 ^ k) % 2))))]) hx hb dL_likeness_110 hl (k := 4) rfl (x_inc k 1 rfl) (by decide) rfl (fun ls hl => ?_)
        have hl : lv_has ls 6 [(0, .ref (xa 43 0)), (1, .int (nI (i))), (2, .int (nI (j))), (3, .int ((its) + (nI (10)))), (4, .int (nI (k + 1))), (5, .int (nI ((((σ 9 i) / 2 ^ k) % 2) + (((σ 9 j) / 2 ^ k) % 2))))] := lv_sub hl [1, 2, 3, 4, 0, 5] rfl
        refine lv_goto (tgt := 54) hx hb dL_likeness_113 (by decide) ?_
        exact ih54 (16 - (k + 1)) ((its) + (nI (10)), k + 1) _ _ _ (by omega) ⟨rfl, hW, lv_sub hl [0, 1, 2, 3, 4] rfl, lk_step2 hits hk1 hk2 hab1.1 hab1.2 (by omega) hbb, by (try dsimp only); omega⟩
  ·
    refine lv_aload_n hx hb dL_likeness_0 rfl (lv_at hl 0 rfl) ?_
    refine lv_iconst (v := nI (2)) hx hb dL_likeness_1 (by decide +kernel) ?_
    refine lv_iload_n hx hb dL_likeness_2 rfl (lv_at hl 1 rfl) ?_
    refine lv_imul hx hb dL_likeness_3 ?_
    rw [pk_mul]
    refine lv_iconst (v := nI (1)) hx hb dL_likeness_4 (by decide +kernel) ?_
    refine lv_iadd hx hb dL_likeness_5 ?_
    rw [nI_add]
    refine x_ild hx hb hW 43 0 (LA_43 hA) (2 * i + 1) rfl (by omega) (by omega) (v := nI (σ 10 i)) (congrArg nI (tv_1 σ i)) dL_likeness_6 ?_
    have b_6 := hB 10 i
    refine lv_aload_n hx hb dL_likeness_7 rfl (lv_at hl 0 rfl) ?_
    refine lv_iconst (v := nI (2)) hx hb dL_likeness_8 (by decide +kernel) ?_
    refine lv_iload_n hx hb dL_likeness_9 rfl (lv_at hl 2 rfl) ?_
    refine lv_imul hx hb dL_likeness_10 ?_
    rw [pk_mul]
    refine lv_iconst (v := nI (1)) hx hb dL_likeness_11 (by decide +kernel) ?_
    refine lv_iadd hx hb dL_likeness_12 ?_
    rw [nI_add]
    refine x_ild hx hb hW 43 0 (LA_43 hA) (2 * j + 1) rfl (by omega) (by omega) (v := nI (σ 10 j)) (congrArg nI (tv_1 σ j)) dL_likeness_13 ?_
    have b_13 := hB 10 j
    refine lv_icmp_ge (tgt := 35) hx hb dL_likeness_14 (by decide) (fun c_14 => ?_) (fun c_14 => ?_)
    · -- ge taken
      have c_14 := Int32.le_iff_toInt_le.mp c_14
      rw [nI_toInt (n := σ 10 i) (by omega)] at c_14
      rw [nI_toInt (n := σ 10 j) (by omega)] at c_14
      refine lv_aload_n hx hb dL_likeness_35 rfl (lv_at hl 0 rfl) ?_
      refine lv_iconst (v := nI (2)) hx hb dL_likeness_36 (by decide +kernel) ?_
      refine lv_iload_n hx hb dL_likeness_37 rfl (lv_at hl 2 rfl) ?_
      refine lv_imul hx hb dL_likeness_38 ?_
      rw [pk_mul]
      refine lv_iconst (v := nI (1)) hx hb dL_likeness_39 (by decide +kernel) ?_
      refine lv_iadd hx hb dL_likeness_40 ?_
      rw [nI_add]
      refine x_ild hx hb hW 43 0 (LA_43 hA) (2 * j + 1) rfl (by omega) (by omega) (v := nI (σ 10 j)) (congrArg nI (tv_1 σ j)) dL_likeness_41 ?_
      have b_41 := hB 10 j
      refine lv_aload_n hx hb dL_likeness_42 rfl (lv_at hl 0 rfl) ?_
      refine lv_iconst (v := nI (2)) hx hb dL_likeness_43 (by decide +kernel) ?_
      refine lv_iload_n hx hb dL_likeness_44 rfl (lv_at hl 1 rfl) ?_
      refine lv_imul hx hb dL_likeness_45 ?_
      rw [pk_mul]
      refine lv_iconst (v := nI (1)) hx hb dL_likeness_46 (by decide +kernel) ?_
      refine lv_iadd hx hb dL_likeness_47 ?_
      rw [nI_add]
      refine x_ild hx hb hW 43 0 (LA_43 hA) (2 * i + 1) rfl (by omega) (by omega) (v := nI (σ 10 i)) (congrArg nI (tv_1 σ i)) dL_likeness_48 ?_
      have b_48 := hB 10 i
      refine lv_isub hx hb dL_likeness_49 ?_
      exact J50 _ _ ((nI (σ 10 j)) - (nI (σ 10 i))) hW (lk_ab1 (a := σ 10 i) (b := σ 10 j) (by omega) (by omega) (by omega))
    · -- ge not
      have c_14 : ¬ ((nI (σ 10 j)).toInt ≤ (nI (σ 10 i)).toInt) := fun h => c_14 (Int32.le_iff_toInt_le.mpr h)
      rw [nI_toInt (n := σ 10 i) (by omega)] at c_14
      rw [nI_toInt (n := σ 10 j) (by omega)] at c_14
      refine lv_aload_n hx hb dL_likeness_17 rfl (lv_at hl 0 rfl) ?_
      refine lv_iconst (v := nI (2)) hx hb dL_likeness_18 (by decide +kernel) ?_
      refine lv_iload_n hx hb dL_likeness_19 rfl (lv_at hl 1 rfl) ?_
      refine lv_imul hx hb dL_likeness_20 ?_
      rw [pk_mul]
      refine lv_iconst (v := nI (1)) hx hb dL_likeness_21 (by decide +kernel) ?_
      refine lv_iadd hx hb dL_likeness_22 ?_
      rw [nI_add]
      refine x_ild hx hb hW 43 0 (LA_43 hA) (2 * i + 1) rfl (by omega) (by omega) (v := nI (σ 10 i)) (congrArg nI (tv_1 σ i)) dL_likeness_23 ?_
      have b_23 := hB 10 i
      refine lv_aload_n hx hb dL_likeness_24 rfl (lv_at hl 0 rfl) ?_
      refine lv_iconst (v := nI (2)) hx hb dL_likeness_25 (by decide +kernel) ?_
      refine lv_iload_n hx hb dL_likeness_26 rfl (lv_at hl 2 rfl) ?_
      refine lv_imul hx hb dL_likeness_27 ?_
      rw [pk_mul]
      refine lv_iconst (v := nI (1)) hx hb dL_likeness_28 (by decide +kernel) ?_
      refine lv_iadd hx hb dL_likeness_29 ?_
      rw [nI_add]
      refine x_ild hx hb hW 43 0 (LA_43 hA) (2 * j + 1) rfl (by omega) (by omega) (v := nI (σ 10 j)) (congrArg nI (tv_1 σ j)) dL_likeness_30 ?_
      have b_30 := hB 10 j
      refine lv_isub hx hb dL_likeness_31 ?_
      refine lv_goto (tgt := 50) hx hb dL_likeness_32 (by decide) ?_
      exact J50 _ _ ((nI (σ 10 i)) - (nI (σ 10 j))) hW (lk_ab0 (a := σ 10 i) (b := σ 10 j) (by omega) (by omega) (by omega))
