/-! THE LAW: heirs, persecutions, the order of stations, losses, holders -/
set_option maxHeartbeats 4000000 in
set_option maxRecDepth 100000 in
theorem c_L_heir (l : Launch) (D : xD) (sa : Nat → Nat) (xa : xA) (G : xG) (σ : Sg) (hI : LI σ) (hA : LAs D G σ) (i k : Nat) (hi : i < 8) (hk : k < σ 4 i) : xCi l yL_heir wsL_heir ({ frames := 10, cells := 0, slots := 0, locals := 200 } : Room) D sa xa G [.ref (xa 41 0), .int (nI (i)), .int (nI (k))] (fun r u => u = (xa, G) ∧ r = nI (σ 3 (12 * i + k))) 0 0 := by
  have hg := hI.1
  have hB := hg.1
  have h5 := hI.2.1
  have h12 := hI.2.2.1
  have h7 := hI.2.2.2
  have hs8 := hg.hs8
  have hy0 := hg.2.1.2.2.2.1
  have hy1 := hg.2.1.2.2.2.2
  have h47 := hI.h7 hi
  intro sz
  refine Met.ofW (cc := cL_heir) (maxL := 3) (ret := (some .int)) (by decide +kernel) rfl ?_
  intro p e s m args below meth c s₁ B hml hv
  obtain ⟨rfl, hsz, hv2⟩ := hv
  subst hsz
  have hx := B.exec
  have hb := B.bytes
  have hr := B.returns
  have hts := atoms_spec (ws := wsL_heir) B.pre
  have hown : s.vm.findClass RL = some m.cls := findClass_of_methodNamed B.named
  have hlocks := B.notSynchronized
  have hW := xW.start (s := s) ⟨rfl, hv2⟩
  clear hv2
  generalize xAw xa (G) s.heap.size = A at hW ⊢
  have hl := lv_entry ([.ref (xa 41 0), .int (nI (i)), .int (nI (k))]) (n := 3) (Nat.le_of_ble_eq_true rfl)
  rw [lg_entry_eq]
  generalize (lg_sl ([.ref (xa 41 0), .int (nI (i)), .int (nI (k))]) ++ List.replicate (3 - (lg_sl ([.ref (xa 41 0), .int (nI (i)), .int (nI (k))])).length) Slot.unset).toArray = ls at hl ⊢
  have hl : lv_has ls 3 [(0, .ref (xa 41 0)), (1, .int (nI (i))), (2, .int (nI (k)))] := hl
  refine lv_aload_n hx hb dL_heir_0 rfl (lv_at hl 0 rfl) ?_
  refine lv_iload_n hx hb dL_heir_1 rfl (lv_at hl 1 rfl) ?_
  refine x_lld hx hb hW 41 0 (LA_41 hA) (i) rfl (by omega) (by omega) (v := lN (hpv σ i)) rfl dL_heir_2 ?_
  have b_2 := hI.hv (i := i) (by omega)
  have b7_2 := hI.h7 (i := i) (by omega)
  refine lv_iconst (v := nI (4)) hx hb dL_heir_3 (by decide +kernel) ?_
  refine lv_iconst (v := nI (3)) hx hb dL_heir_4 (by decide +kernel) ?_
  refine lv_iload_n hx hb dL_heir_5 rfl (lv_at hl 2 rfl) ?_
  refine lv_imul hx hb dL_heir_6 ?_
  rw [pk_mul]
  refine lv_iadd hx hb dL_heir_7 ?_
  rw [nI_add]
  refine lv_lshr (v := lN ((hpv σ i) / 2 ^ (4 + 3 * k))) hx hb dL_heir_8 (lN_shr (by omega) (by omega)) ?_
  refine lv_ldc2 (v := lN 7) hx hb hown (hts (.constantLong RL 9 (lN 7)) (by decide +kernel)) dL_heir_9 ?_
  refine lv_land hx hb dL_heir_12 ?_
  rw [l_mask _ 3 7 (by decide)]
  refine lv_l2i (v := nI (((hpv σ i) / 2 ^ (4 + 3 * k)) % 2 ^ 3)) hx hb dL_heir_13 (lN_i _) ?_
  exact xe_i hx hb hr rfl hlocks hW ⟨rfl, by rw [hI.hk hi hk]⟩ (Nat.le_of_ble_eq_true rfl) (Nat.le_of_ble_eq_true rfl) dL_heir_14

set_option maxHeartbeats 4000000 in
set_option maxRecDepth 100000 in
theorem c_L_heirOf (l : Launch) (D : xD) (sa : Nat → Nat) (xa : xA) (G : xG) (σ : Sg) (hI : LI σ) (hA : LAs D G σ) (i : Nat) (hi : i < 8) : xCi l yL_heirOf wsL_heirOf ({ frames := 12, cells := 0, slots := 0, locals := 300 } : Room) D sa xa G [.ref (xa 40 0), .ref (xa 41 0), .int (nI (i))] (fun r u => u = (xa, G) ∧ r = oi (fh σ 3 i)) 0 0 := by
  have hg := hI.1
  have hB := hg.1
  have h5 := hI.2.1
  have h12 := hI.2.2.1
  have h7 := hI.2.2.2
  have hs8 := hg.hs8
  have hy0 := hg.2.1.2.2.2.1
  have hy1 := hg.2.1.2.2.2.2
  have h47 := hI.h7 hi
  intro sz
  refine Met.ofW (cc := cL_heirOf) (maxL := 8) (ret := (some .int)) (by decide +kernel) rfl ?_
  intro p e s m args below meth c s₁ B hml hv
  obtain ⟨rfl, hsz, hv2⟩ := hv
  subst hsz
  have hx := B.exec
  have hb := B.bytes
  have hr := B.returns
  have hts := atoms_spec (ws := wsL_heirOf) B.pre
  have hown : s.vm.findClass RL = some m.cls := findClass_of_methodNamed B.named
  have hlocks := B.notSynchronized
  have hW := xW.start (s := s) ⟨rfl, hv2⟩
  clear hv2
  generalize xAw xa (G) s.heap.size = A at hW ⊢
  have hl := lv_entry ([.ref (xa 40 0), .ref (xa 41 0), .int (nI (i))]) (n := 8) (Nat.le_of_ble_eq_true rfl)
  rw [lg_entry_eq]
  generalize (lg_sl ([.ref (xa 40 0), .ref (xa 41 0), .int (nI (i))]) ++ List.replicate (8 - (lg_sl ([.ref (xa 40 0), .ref (xa 41 0), .int (nI (i))])).length) Slot.unset).toArray = ls at hl ⊢
  have hl : lv_has ls 8 [(0, .ref (xa 40 0)), (1, .ref (xa 41 0)), (2, .int (nI (i)))] := hl
  refine lv_iconst (v := nI (0)) hx hb dL_heirOf_0 (by decide +kernel) ?_
  refine lv_istore_n (lv' := [(3, .int (nI (0))), (0, .ref (xa 40 0)), (1, .ref (xa 41 0)), (2, .int (nI (i)))]) hx hb dL_heirOf_1 rfl hl (by decide) rfl (fun ls hl => ?_)
  have hl : lv_has ls 8 [(0, .ref (xa 40 0)), (1, .ref (xa 41 0)), (2, .int (nI (i))), (3, .int (nI (0)))] := lv_sub hl [1, 2, 3, 0] rfl
  refine x_loop (X := Nat) (I := fun n xv H locs ls => n = σ 4 i - xv ∧ xW D sa A s xa (G) H locs ∧ lv_has ls 8 [(0, .ref (xa 40 0)), (1, .ref (xa 41 0)), (2, .int (nI (i))), (3, .int (nI (xv)))] ∧ (fh σ 3 i = ff (hg1 σ 2 i) xv (σ 4 i - xv)) ∧ (xv ≤ σ 4 i)) (hd := 2) ?_ (n := _) (x := (0)) ⟨rfl, hW, hl, fh_eq σ 2 i, by (try dsimp only); omega⟩
  rintro n k1 H locs ls ⟨hn, hW, hl, hf, hk1⟩ ih2
  try dsimp only at hn hW hl hf hk1
  refine lv_iload_n hx hb dL_heirOf_2 rfl (lv_at hl 3 rfl) ?_
  refine lv_i2l (v := lN (k1)) hx hb dL_heirOf_3 (nI_l (by omega)) ?_
  refine lv_aload_n hx hb dL_heirOf_4 rfl (lv_at hl 1 rfl) ?_
  refine lv_iload_n hx hb dL_heirOf_5 rfl (lv_at hl 2 rfl) ?_
  refine x_lld hx hb hW 41 0 (LA_41 hA) (i) rfl (by omega) (by omega) (v := lN (hpv σ i)) rfl dL_heirOf_6 ?_
  have b_6 := hI.hv (i := i) (by omega)
  have b7_6 := hI.h7 (i := i) (by omega)
  refine lv_ldc2 (v := lN 15) hx hb hown (hts (.constantLong RL 11 (lN 15)) (by decide +kernel)) dL_heirOf_7 ?_
  refine lv_land hx hb dL_heirOf_10 ?_
  rw [l_mask _ 4 15 (by decide), hI.hn (i := i) (by omega)]
  refine W.lcmp hx hb dL_heirOf_11 ?_
  refine lv_if_ge (tgt := 135) hx hb dL_heirOf_12 (by decide) (fun c_12 => ?_) (fun c_12 => ?_)
  · -- ge taken
    have c_12 := (pk_lLE (a := σ 4 i) (b := k1) (by omega) (by omega)).mp ((lg_cmp_ge _ _).mp c_12)
    refine lv_iconst (v := -1) hx hb dL_heirOf_135 (by decide +kernel) ?_
    exact xe_i hx hb hr rfl hlocks hW ⟨rfl, (congrArg oi (ff_end hf (by omega))).symm⟩ (Nat.le_of_ble_eq_true rfl) (Nat.le_of_ble_eq_true rfl) dL_heirOf_136
  · -- ge not
    have c_12 : ¬ (σ 4 i ≤ k1) := fun h_ => c_12 ((lg_cmp_ge _ _).mpr ((pk_lLE (a := σ 4 i) (b := k1) (by omega) (by omega)).mpr h_))
    refine lv_aload_n hx hb dL_heirOf_15 rfl (lv_at hl 1 rfl) ?_
    refine lv_iload_n hx hb dL_heirOf_16 rfl (lv_at hl 2 rfl) ?_
    refine lv_iload_n hx hb dL_heirOf_17 rfl (lv_at hl 3 rfl) ?_
    refine xs_i (As := [.ref (xa 41 0), .int (nI (i)), .int (nI (k1))]) (rest := []) ⟨hx, hb, hml, hown, hts⟩ (c_L_heir l D sa xa G σ hI hA i k1 (by omega) (by omega)) (va_cwS 3 hts gL_heirOf_L_heir rfl rfl rfl (by decide +kernel) ⟨Nat.le_of_ble_eq_true rfl, Nat.le_of_ble_eq_true rfl⟩) hW rfl rfl hl.1 (Nat.le_of_ble_eq_true rfl) dL_heirOf_18 ⟨Nat.le_of_ble_eq_true rfl, Nat.le_of_ble_eq_true rfl⟩ (fun r_18 xa1 G1 H locs hp hW => ?_)
    obtain ⟨hu, hr_18⟩ := hp
    cases hu
    subst hr_18
    have b8_18 := hI.h8 (i := i) (by omega) (k := k1) (by omega)
    have b7_18 := hI.h7 (i := σ 3 (12 * i + k1)) b8_18
    refine lv_istore (lv' := [(4, .int (nI (σ 3 (12 * i + k1)))), (0, .ref (xa 40 0)), (1, .ref (xa 41 0)), (2, .int (nI (i))), (3, .int (nI (k1)))]) hx hb dL_heirOf_21 hl (by decide) rfl (fun ls hl => ?_)
    have hl : lv_has ls 8 [(0, .ref (xa 40 0)), (1, .ref (xa 41 0)), (2, .int (nI (i))), (3, .int (nI (k1))), (4, .int (nI (σ 3 (12 * i + k1))))] := lv_sub hl [1, 2, 3, 4, 0] rfl
    refine lv_aload_n hx hb dL_heirOf_23 rfl (lv_at hl 0 rfl) ?_
    refine lv_iload hx hb dL_heirOf_24 (lv_at hl 4 rfl) ?_
    refine x_ild hx hb hW 40 0 (LA_40 hA) (σ 3 (12 * i + k1)) rfl (by omega) (by omega) (v := nI (σ 1 (σ 3 (12 * i + k1)) + 8 * σ 2 (σ 3 (12 * i + k1)))) rfl dL_heirOf_26 ?_
    have b_26 := LI.pb hI (i := σ 3 (12 * i + k1)) (by omega)
    refine lv_bipush (v := nI (8)) hx hb dL_heirOf_27 (by decide +kernel) ?_
    refine lv_icmp_ge (tgt := 35) hx hb dL_heirOf_29 (by decide) (fun c_29 => ?_) (fun c_29 => ?_)
    · -- ge taken
      have c_29 := Int32.le_iff_toInt_le.mp c_29
      rw [nI_toInt (n := σ 1 (σ 3 (12 * i + k1)) + 8 * σ 2 (σ 3 (12 * i + k1))) (by omega)] at c_29
      rw [nI_toInt (n := 8) (by omega)] at c_29
      have hd1 : ¬ σ 2 (σ 3 (12 * i + k1)) = 0 := by omega
      refine lv_iconst (v := nI (0)) hx hb dL_heirOf_35 (by decide +kernel) ?_
      refine lv_istore (lv' := [(5, .int (nI (0))), (0, .ref (xa 40 0)), (1, .ref (xa 41 0)), (2, .int (nI (i))), (3, .int (nI (k1))), (4, .int (nI (σ 3 (12 * i + k1))))]) hx hb dL_heirOf_36 hl (by decide) rfl (fun ls hl => ?_)
      have hl : lv_has ls 8 [(0, .ref (xa 40 0)), (1, .ref (xa 41 0)), (2, .int (nI (i))), (3, .int (nI (k1))), (4, .int (nI (σ 3 (12 * i + k1)))), (5, .int (nI (0)))] := lv_sub hl [1, 2, 3, 4, 5, 0] rfl
      refine x_loop (X := Nat) (I := fun n xv H locs ls => n = σ 4 (σ 3 (12 * i + k1)) - xv ∧ xW D sa A s xa (G) H locs ∧ lv_has ls 8 [(0, .ref (xa 40 0)), (1, .ref (xa 41 0)), (2, .int (nI (i))), (3, .int (nI (k1))), (4, .int (nI (σ 3 (12 * i + k1)))), (5, .int (nI (xv)))] ∧ (fh σ 2 (σ 3 (12 * i + k1)) = ff (hg1 σ 1 (σ 3 (12 * i + k1))) xv (σ 4 (σ 3 (12 * i + k1)) - xv)) ∧ (xv ≤ σ 4 (σ 3 (12 * i + k1)))) (hd := 38) ?_ (n := _) (x := (0)) ⟨rfl, hW, hl, fh_eq σ 1 _, by (try dsimp only); omega⟩
      rintro n k2 H locs ls ⟨hn, hW, hl, hf2, hk2⟩ ih38
      try dsimp only at hn hW hl hf2 hk2
      refine lv_iload hx hb dL_heirOf_38 (lv_at hl 5 rfl) ?_
      refine lv_i2l (v := lN (k2)) hx hb dL_heirOf_40 (nI_l (by omega)) ?_
      refine lv_aload_n hx hb dL_heirOf_41 rfl (lv_at hl 1 rfl) ?_
      refine lv_iload hx hb dL_heirOf_42 (lv_at hl 4 rfl) ?_
      refine x_lld hx hb hW 41 0 (LA_41 hA) (σ 3 (12 * i + k1)) rfl (by omega) (by omega) (v := lN (hpv σ (σ 3 (12 * i + k1)))) rfl dL_heirOf_44 ?_
      have b_44 := hI.hv (i := σ 3 (12 * i + k1)) (by omega)
      have b7_44 := hI.h7 (i := σ 3 (12 * i + k1)) (by omega)
      refine lv_ldc2 (v := lN 15) hx hb hown (hts (.constantLong RL 11 (lN 15)) (by decide +kernel)) dL_heirOf_45 ?_
      refine lv_land hx hb dL_heirOf_48 ?_
      rw [l_mask _ 4 15 (by decide), hI.hn (i := (σ 3 (12 * i + k1))) (by omega)]
      refine W.lcmp hx hb dL_heirOf_49 ?_
      refine lv_if_ge (tgt := 129) hx hb dL_heirOf_50 (by decide) (fun c_50 => ?_) (fun c_50 => ?_)
      · -- ge taken
        have c_50 := (pk_lLE (a := σ 4 (σ 3 (12 * i + k1))) (b := k2) (by omega) (by omega)).mp ((lg_cmp_ge _ _).mp c_50)
        have hn1 : hg1 σ 2 i k1 = none := (if_neg hd1).trans (ff_end hf2 (by omega))
        refine lv_iinc (v := nI (k1 + 1)) (lv' := [(3, .int (nI (k1 + 1))), (0, .ref (xa 40 0)), (1, .ref (xa 41 0)), (2, .int (nI (i))), (4, .int (nI (σ 3 (12 * i + k1)))), (5, .int (nI (k2)))]) hx hb dL_heirOf_129 hl (k := 3) rfl (x_inc k1 1 rfl) (by decide) rfl (fun ls hl => ?_)
        have hl : lv_has ls 8 [(0, .ref (xa 40 0)), (1, .ref (xa 41 0)), (2, .int (nI (i))), (3, .int (nI (k1 + 1))), (4, .int (nI (σ 3 (12 * i + k1)))), (5, .int (nI (k2)))] := lv_sub hl [1, 2, 3, 0, 4, 5] rfl
        refine lv_goto (tgt := 2) hx hb dL_heirOf_132 (by decide) ?_
        exact ih2 (σ 4 i - (k1 + 1)) (k1 + 1) _ _ _ (by omega) ⟨rfl, hW, lv_sub hl [0, 1, 2, 3] rfl, ff_none hf (by omega) hn1, by (try dsimp only); omega⟩
      · -- ge not
        have c_50 : ¬ (σ 4 (σ 3 (12 * i + k1)) ≤ k2) := fun h_ => c_50 ((lg_cmp_ge _ _).mpr ((pk_lLE (a := σ 4 (σ 3 (12 * i + k1))) (b := k2) (by omega) (by omega)).mpr h_))
        refine lv_aload_n hx hb dL_heirOf_53 rfl (lv_at hl 1 rfl) ?_
        refine lv_iload hx hb dL_heirOf_54 (lv_at hl 4 rfl) ?_
        refine lv_iload hx hb dL_heirOf_56 (lv_at hl 5 rfl) ?_
        refine xs_i (As := [.ref (xa 41 0), .int (nI (σ 3 (12 * i + k1))), .int (nI (k2))]) (rest := []) ⟨hx, hb, hml, hown, hts⟩ (c_L_heir l D sa xa G σ hI hA (σ 3 (12 * i + k1)) k2 (by omega) (by omega)) (va_cwS 3 hts gL_heirOf_L_heir rfl rfl rfl (by decide +kernel) ⟨Nat.le_of_ble_eq_true rfl, Nat.le_of_ble_eq_true rfl⟩) hW rfl rfl hl.1 (Nat.le_of_ble_eq_true rfl) dL_heirOf_58 ⟨Nat.le_of_ble_eq_true rfl, Nat.le_of_ble_eq_true rfl⟩ (fun r_58 xa1 G1 H locs hp hW => ?_)
        obtain ⟨hu, hr_58⟩ := hp
        cases hu
        subst hr_58
        have b8_58 := hI.h8 (i := σ 3 (12 * i + k1)) (by omega) (k := k2) (by omega)
        have b7_58 := hI.h7 (i := σ 3 (12 * (σ 3 (12 * i + k1)) + k2)) b8_58
        refine lv_istore (lv' := [(6, .int (nI (σ 3 (12 * (σ 3 (12 * i + k1)) + k2)))), (0, .ref (xa 40 0)), (1, .ref (xa 41 0)), (2, .int (nI (i))), (3, .int (nI (k1))), (4, .int (nI (σ 3 (12 * i + k1)))), (5, .int (nI (k2)))]) hx hb dL_heirOf_61 hl (by decide) rfl (fun ls hl => ?_)
        have hl : lv_has ls 8 [(0, .ref (xa 40 0)), (1, .ref (xa 41 0)), (2, .int (nI (i))), (3, .int (nI (k1))), (4, .int (nI (σ 3 (12 * i + k1)))), (5, .int (nI (k2))), (6, .int (nI (σ 3 (12 * (σ 3 (12 * i + k1)) + k2))))] := lv_sub hl [1, 2, 3, 4, 5, 6, 0] rfl
        refine lv_aload_n hx hb dL_heirOf_63 rfl (lv_at hl 0 rfl) ?_
        refine lv_iload hx hb dL_heirOf_64 (lv_at hl 6 rfl) ?_
        refine x_ild hx hb hW 40 0 (LA_40 hA) (σ 3 (12 * (σ 3 (12 * i + k1)) + k2)) rfl (by omega) (by omega) (v := nI (σ 1 (σ 3 (12 * (σ 3 (12 * i + k1)) + k2)) + 8 * σ 2 (σ 3 (12 * (σ 3 (12 * i + k1)) + k2)))) rfl dL_heirOf_66 ?_
        have b_66 := LI.pb hI (i := σ 3 (12 * (σ 3 (12 * i + k1)) + k2)) (by omega)
        refine lv_bipush (v := nI (8)) hx hb dL_heirOf_67 (by decide +kernel) ?_
        refine lv_icmp_ge (tgt := 75) hx hb dL_heirOf_69 (by decide) (fun c_69 => ?_) (fun c_69 => ?_)
        · -- ge taken
          have c_69 := Int32.le_iff_toInt_le.mp c_69
          rw [nI_toInt (n := σ 1 (σ 3 (12 * (σ 3 (12 * i + k1)) + k2)) + 8 * σ 2 (σ 3 (12 * (σ 3 (12 * i + k1)) + k2))) (by omega)] at c_69
          rw [nI_toInt (n := 8) (by omega)] at c_69
          have hd2 : ¬ σ 2 (σ 3 (12 * (σ 3 (12 * i + k1)) + k2)) = 0 := by omega
          refine lv_iconst (v := nI (0)) hx hb dL_heirOf_75 (by decide +kernel) ?_
          refine lv_istore (lv' := [(7, .int (nI (0))), (0, .ref (xa 40 0)), (1, .ref (xa 41 0)), (2, .int (nI (i))), (3, .int (nI (k1))), (4, .int (nI (σ 3 (12 * i + k1)))), (5, .int (nI (k2))), (6, .int (nI (σ 3 (12 * (σ 3 (12 * i + k1)) + k2))))]) hx hb dL_heirOf_76 hl (by decide) rfl (fun ls hl => ?_)
          have hl : lv_has ls 8 [(0, .ref (xa 40 0)), (1, .ref (xa 41 0)), (2, .int (nI (i))), (3, .int (nI (k1))), (4, .int (nI (σ 3 (12 * i + k1)))), (5, .int (nI (k2))), (6, .int (nI (σ 3 (12 * (σ 3 (12 * i + k1)) + k2)))), (7, .int (nI (0)))] := lv_sub hl [1, 2, 3, 4, 5, 6, 7, 0] rfl
          refine x_loop (X := Nat) (I := fun n xv H locs ls => n = σ 4 (σ 3 (12 * (σ 3 (12 * i + k1)) + k2)) - xv ∧ xW D sa A s xa (G) H locs ∧ lv_has ls 8 [(0, .ref (xa 40 0)), (1, .ref (xa 41 0)), (2, .int (nI (i))), (3, .int (nI (k1))), (4, .int (nI (σ 3 (12 * i + k1)))), (5, .int (nI (k2))), (6, .int (nI (σ 3 (12 * (σ 3 (12 * i + k1)) + k2)))), (7, .int (nI (xv)))] ∧ (fh σ 1 (σ 3 (12 * (σ 3 (12 * i + k1)) + k2)) = ff (hg1 σ 0 (σ 3 (12 * (σ 3 (12 * i + k1)) + k2))) xv (σ 4 (σ 3 (12 * (σ 3 (12 * i + k1)) + k2)) - xv)) ∧ (xv ≤ σ 4 (σ 3 (12 * (σ 3 (12 * i + k1)) + k2)))) (hd := 78) ?_ (n := _) (x := (0)) ⟨rfl, hW, hl, fh_eq σ 0 _, by (try dsimp only); omega⟩
          rintro n k3 H locs ls ⟨hn, hW, hl, hf3, hk3⟩ ih78
          try dsimp only at hn hW hl hf3 hk3
          refine lv_iload hx hb dL_heirOf_78 (lv_at hl 7 rfl) ?_
          refine lv_i2l (v := lN (k3)) hx hb dL_heirOf_80 (nI_l (by omega)) ?_
          refine lv_aload_n hx hb dL_heirOf_81 rfl (lv_at hl 1 rfl) ?_
          refine lv_iload hx hb dL_heirOf_82 (lv_at hl 6 rfl) ?_
          refine x_lld hx hb hW 41 0 (LA_41 hA) (σ 3 (12 * (σ 3 (12 * i + k1)) + k2)) rfl (by omega) (by omega) (v := lN (hpv σ (σ 3 (12 * (σ 3 (12 * i + k1)) + k2)))) rfl dL_heirOf_84 ?_
          have b_84 := hI.hv (i := σ 3 (12 * (σ 3 (12 * i + k1)) + k2)) (by omega)
          have b7_84 := hI.h7 (i := σ 3 (12 * (σ 3 (12 * i + k1)) + k2)) (by omega)
          refine lv_ldc2 (v := lN 15) hx hb hown (hts (.constantLong RL 11 (lN 15)) (by decide +kernel)) dL_heirOf_85 ?_
          refine lv_land hx hb dL_heirOf_88 ?_
          rw [l_mask _ 4 15 (by decide), hI.hn (i := (σ 3 (12 * (σ 3 (12 * i + k1)) + k2))) (by omega)]
          refine W.lcmp hx hb dL_heirOf_89 ?_
          refine lv_if_ge (tgt := 123) hx hb dL_heirOf_90 (by decide) (fun c_90 => ?_) (fun c_90 => ?_)
          · -- ge taken
            have c_90 := (pk_lLE (a := σ 4 (σ 3 (12 * (σ 3 (12 * i + k1)) + k2))) (b := k3) (by omega) (by omega)).mp ((lg_cmp_ge _ _).mp c_90)
            have hn2 : hg1 σ 1 (σ 3 (12 * i + k1)) k2 = none := (if_neg hd2).trans (ff_end hf3 (by omega))
            refine lv_iinc (v := nI (k2 + 1)) (lv' := [(5, .int (nI (k2 + 1))), (0, .ref (xa 40 0)), (1, .ref (xa 41 0)), (2, .int (nI (i))), (3, .int (nI (k1))), (4, .int (nI (σ 3 (12 * i + k1)))), (6, .int (nI (σ 3 (12 * (σ 3 (12 * i + k1)) + k2)))), (7, .int (nI (k3)))]) hx hb dL_heirOf_123 hl (k := 5) rfl (x_inc k2 1 rfl) (by decide) rfl (fun ls hl => ?_)
            have hl : lv_has ls 8 [(0, .ref (xa 40 0)), (1, .ref (xa 41 0)), (2, .int (nI (i))), (3, .int (nI (k1))), (4, .int (nI (σ 3 (12 * i + k1)))), (5, .int (nI (k2 + 1))), (6, .int (nI (σ 3 (12 * (σ 3 (12 * i + k1)) + k2)))), (7, .int (nI (k3)))] := lv_sub hl [1, 2, 3, 4, 5, 0, 6, 7] rfl
            refine lv_goto (tgt := 38) hx hb dL_heirOf_126 (by decide) ?_
            exact ih38 (σ 4 (σ 3 (12 * i + k1)) - (k2 + 1)) (k2 + 1) _ _ _ (by omega) ⟨rfl, hW, lv_sub hl [0, 1, 2, 3, 4, 5] rfl, ff_none hf2 (by omega) hn2, by (try dsimp only); omega⟩
          · -- ge not
            have c_90 : ¬ (σ 4 (σ 3 (12 * (σ 3 (12 * i + k1)) + k2)) ≤ k3) := fun h_ => c_90 ((lg_cmp_ge _ _).mpr ((pk_lLE (a := σ 4 (σ 3 (12 * (σ 3 (12 * i + k1)) + k2))) (b := k3) (by omega) (by omega)).mpr h_))
            refine lv_aload_n hx hb dL_heirOf_93 rfl (lv_at hl 0 rfl) ?_
            refine lv_aload_n hx hb dL_heirOf_94 rfl (lv_at hl 1 rfl) ?_
            refine lv_iload hx hb dL_heirOf_95 (lv_at hl 6 rfl) ?_
            refine lv_iload hx hb dL_heirOf_97 (lv_at hl 7 rfl) ?_
            refine xs_i (As := [.ref (xa 41 0), .int (nI (σ 3 (12 * (σ 3 (12 * i + k1)) + k2))), .int (nI (k3))]) (rest := [.ref (xa 40 0)]) ⟨hx, hb, hml, hown, hts⟩ (c_L_heir l D sa xa G σ hI hA (σ 3 (12 * (σ 3 (12 * i + k1)) + k2)) k3 (by omega) (by omega)) (va_cwS 3 hts gL_heirOf_L_heir rfl rfl rfl (by decide +kernel) ⟨Nat.le_of_ble_eq_true rfl, Nat.le_of_ble_eq_true rfl⟩) hW rfl rfl hl.1 (Nat.le_of_ble_eq_true rfl) dL_heirOf_99 ⟨Nat.le_of_ble_eq_true rfl, Nat.le_of_ble_eq_true rfl⟩ (fun r_99 xa1 G1 H locs hp hW => ?_)
            obtain ⟨hu, hr_99⟩ := hp
            cases hu
            subst hr_99
            have b8_99 := hI.h8 (i := σ 3 (12 * (σ 3 (12 * i + k1)) + k2)) (by omega) (k := k3) (by omega)
            have b7_99 := hI.h7 (i := σ 3 (12 * (σ 3 (12 * (σ 3 (12 * i + k1)) + k2)) + k3)) b8_99
            refine x_ild hx hb hW 40 0 (LA_40 hA) (σ 3 (12 * (σ 3 (12 * (σ 3 (12 * i + k1)) + k2)) + k3)) rfl (by omega) (by omega) (v := nI (σ 1 (σ 3 (12 * (σ 3 (12 * (σ 3 (12 * i + k1)) + k2)) + k3)) + 8 * σ 2 (σ 3 (12 * (σ 3 (12 * (σ 3 (12 * i + k1)) + k2)) + k3)))) rfl dL_heirOf_102 ?_
            have b_102 := LI.pb hI (i := σ 3 (12 * (σ 3 (12 * (σ 3 (12 * i + k1)) + k2)) + k3)) (by omega)
            refine lv_bipush (v := nI (8)) hx hb dL_heirOf_103 (by decide +kernel) ?_
            refine lv_icmp_ge (tgt := 117) hx hb dL_heirOf_105 (by decide) (fun c_105 => ?_) (fun c_105 => ?_)
            · -- ge taken
              have c_105 := Int32.le_iff_toInt_le.mp c_105
              rw [nI_toInt (n := σ 1 (σ 3 (12 * (σ 3 (12 * (σ 3 (12 * i + k1)) + k2)) + k3)) + 8 * σ 2 (σ 3 (12 * (σ 3 (12 * (σ 3 (12 * i + k1)) + k2)) + k3))) (by omega)] at c_105
              rw [nI_toInt (n := 8) (by omega)] at c_105
              have hd3 : ¬ σ 2 (σ 3 (12 * (σ 3 (12 * (σ 3 (12 * i + k1)) + k2)) + k3)) = 0 := by omega
              have hn3 : hg1 σ 0 (σ 3 (12 * (σ 3 (12 * i + k1)) + k2)) k3 = none := if_neg hd3
              refine lv_iinc (v := nI (k3 + 1)) (lv' := [(7, .int (nI (k3 + 1))), (0, .ref (xa 40 0)), (1, .ref (xa 41 0)), (2, .int (nI (i))), (3, .int (nI (k1))), (4, .int (nI (σ 3 (12 * i + k1)))), (5, .int (nI (k2))), (6, .int (nI (σ 3 (12 * (σ 3 (12 * i + k1)) + k2))))]) hx hb dL_heirOf_117 hl (k := 7) rfl (x_inc k3 1 rfl) (by decide) rfl (fun ls hl => ?_)
              have hl : lv_has ls 8 [(0, .ref (xa 40 0)), (1, .ref (xa 41 0)), (2, .int (nI (i))), (3, .int (nI (k1))), (4, .int (nI (σ 3 (12 * i + k1)))), (5, .int (nI (k2))), (6, .int (nI (σ 3 (12 * (σ 3 (12 * i + k1)) + k2)))), (7, .int (nI (k3 + 1)))] := lv_sub hl [1, 2, 3, 4, 5, 6, 7, 0] rfl
              refine lv_goto (tgt := 78) hx hb dL_heirOf_120 (by decide) ?_
              exact ih78 (σ 4 (σ 3 (12 * (σ 3 (12 * i + k1)) + k2)) - (k3 + 1)) (k3 + 1) _ _ _ (by omega) ⟨rfl, hW, hl, ff_none hf3 (by omega) hn3, by (try dsimp only); omega⟩
            · -- ge not
              have c_105 : ¬ ((nI (8)).toInt ≤ (nI (σ 1 (σ 3 (12 * (σ 3 (12 * (σ 3 (12 * i + k1)) + k2)) + k3)) + 8 * σ 2 (σ 3 (12 * (σ 3 (12 * (σ 3 (12 * i + k1)) + k2)) + k3)))).toInt) := fun h => c_105 (Int32.le_iff_toInt_le.mpr h)
              rw [nI_toInt (n := σ 1 (σ 3 (12 * (σ 3 (12 * (σ 3 (12 * i + k1)) + k2)) + k3)) + 8 * σ 2 (σ 3 (12 * (σ 3 (12 * (σ 3 (12 * i + k1)) + k2)) + k3))) (by omega)] at c_105
              rw [nI_toInt (n := 8) (by omega)] at c_105
              have hl3 : σ 2 (σ 3 (12 * (σ 3 (12 * (σ 3 (12 * i + k1)) + k2)) + k3)) = 0 := by omega
              refine lv_aload_n hx hb dL_heirOf_108 rfl (lv_at hl 1 rfl) ?_
              refine lv_iload hx hb dL_heirOf_109 (lv_at hl 6 rfl) ?_
              refine lv_iload hx hb dL_heirOf_111 (lv_at hl 7 rfl) ?_
              refine xs_i (As := [.ref (xa 41 0), .int (nI (σ 3 (12 * (σ 3 (12 * i + k1)) + k2))), .int (nI (k3))]) (rest := []) ⟨hx, hb, hml, hown, hts⟩ (c_L_heir l D sa xa G σ hI hA (σ 3 (12 * (σ 3 (12 * i + k1)) + k2)) k3 (by omega) (by omega)) (va_cwS 3 hts gL_heirOf_L_heir rfl rfl rfl (by decide +kernel) ⟨Nat.le_of_ble_eq_true rfl, Nat.le_of_ble_eq_true rfl⟩) hW rfl rfl hl.1 (Nat.le_of_ble_eq_true rfl) dL_heirOf_113 ⟨Nat.le_of_ble_eq_true rfl, Nat.le_of_ble_eq_true rfl⟩ (fun r_113 xa1 G1 H locs hp hW => ?_)
              obtain ⟨hu, hr_113⟩ := hp
              cases hu
              subst hr_113
              have b8_113 := hI.h8 (i := σ 3 (12 * (σ 3 (12 * i + k1)) + k2)) (by omega) (k := k3) (by omega)
              have b7_113 := hI.h7 (i := σ 3 (12 * (σ 3 (12 * (σ 3 (12 * i + k1)) + k2)) + k3)) b8_113
              exact xe_i hx hb hr rfl hlocks hW ⟨rfl, (congrArg oi (ff_some hf (by omega) (show hg1 σ 2 i k1 = some _ from (if_neg hd1).trans (ff_some hf2 (by omega) (show hg1 σ 1 _ k2 = some _ from (if_neg hd2).trans (ff_some hf3 (by omega) (show hg1 σ 0 _ k3 = some _ from if_pos hl3))))))).symm⟩ (Nat.le_of_ble_eq_true rfl) (Nat.le_of_ble_eq_true rfl) dL_heirOf_116
        · -- ge not
          have c_69 : ¬ ((nI (8)).toInt ≤ (nI (σ 1 (σ 3 (12 * (σ 3 (12 * i + k1)) + k2)) + 8 * σ 2 (σ 3 (12 * (σ 3 (12 * i + k1)) + k2)))).toInt) := fun h => c_69 (Int32.le_iff_toInt_le.mpr h)
          rw [nI_toInt (n := σ 1 (σ 3 (12 * (σ 3 (12 * i + k1)) + k2)) + 8 * σ 2 (σ 3 (12 * (σ 3 (12 * i + k1)) + k2))) (by omega)] at c_69
          rw [nI_toInt (n := 8) (by omega)] at c_69
          have hl2 : σ 2 (σ 3 (12 * (σ 3 (12 * i + k1)) + k2)) = 0 := by omega
          refine lv_iload hx hb dL_heirOf_72 (lv_at hl 6 rfl) ?_
          exact xe_i hx hb hr rfl hlocks hW ⟨rfl, (congrArg oi (ff_some hf (by omega) (show hg1 σ 2 i k1 = some _ from (if_neg hd1).trans (ff_some hf2 (by omega) (show hg1 σ 1 _ k2 = some _ from if_pos hl2))))).symm⟩ (Nat.le_of_ble_eq_true rfl) (Nat.le_of_ble_eq_true rfl) dL_heirOf_74
    · -- ge not
      have c_29 : ¬ ((nI (8)).toInt ≤ (nI (σ 1 (σ 3 (12 * i + k1)) + 8 * σ 2 (σ 3 (12 * i + k1)))).toInt) := fun h => c_29 (Int32.le_iff_toInt_le.mpr h)
      rw [nI_toInt (n := σ 1 (σ 3 (12 * i + k1)) + 8 * σ 2 (σ 3 (12 * i + k1))) (by omega)] at c_29
      rw [nI_toInt (n := 8) (by omega)] at c_29
      have hl1 : σ 2 (σ 3 (12 * i + k1)) = 0 := by omega
      refine lv_iload hx hb dL_heirOf_32 (lv_at hl 4 rfl) ?_
      exact xe_i hx hb hr rfl hlocks hW ⟨rfl, (congrArg oi (ff_some hf (by omega) (show hg1 σ 2 i k1 = some _ from if_pos hl1))).symm⟩ (Nat.le_of_ble_eq_true rfl) (Nat.le_of_ble_eq_true rfl) dL_heirOf_34

set_option maxHeartbeats 4000000 in
set_option maxRecDepth 100000 in
theorem c_L_isPersecuted (l : Launch) (D : xD) (sa : Nat → Nat) (xa : xA) (G : xG) (σ : Sg) (hI : LI σ) (hA : LAs D G σ) (i a y : Nat) (hi : i < 8) (ha : a < 65536) (hy : y < 65536) : xCi l yL_isPersecuted wsL_isPersecuted ({ frames := 10, cells := 0, slots := 0, locals := 200 } : Room) D sa xa G [.ref (xa 40 0), .ref (xa 42 0), .ref (xa 45 0), .int (nI (i)), .int (nI (a)), .int (nI (y))] (fun r u => u = (xa, G) ∧ tv r (sPers σ (σ 1 i) a y)) 0 0 := by
  have hg := hI.1
  have hB := hg.1
  have h5 := hI.2.1
  have h12 := hI.2.2.1
  have h7 := hI.2.2.2
  have hs8 := hg.hs8
  have hy0 := hg.2.1.2.2.2.1
  have hy1 := hg.2.1.2.2.2.2
  have hpb := hI.pb hi
  intro sz
  refine Met.ofW (cc := cL_isPersecuted) (maxL := 8) (ret := (some .boolean)) (by decide +kernel) rfl ?_
  intro p e s m args below meth c s₁ B hml hv
  obtain ⟨rfl, hsz, hv2⟩ := hv
  subst hsz
  have hx := B.exec
  have hb := B.bytes
  have hr := B.returns
  have hts := atoms_spec (ws := wsL_isPersecuted) B.pre
  have hown : s.vm.findClass RL = some m.cls := findClass_of_methodNamed B.named
  have hlocks := B.notSynchronized
  have hW := xW.start (s := s) ⟨rfl, hv2⟩
  clear hv2
  generalize xAw xa (G) s.heap.size = A at hW ⊢
  have hl := lv_entry ([.ref (xa 40 0), .ref (xa 42 0), .ref (xa 45 0), .int (nI (i)), .int (nI (a)), .int (nI (y))]) (n := 8) (Nat.le_of_ble_eq_true rfl)
  rw [lg_entry_eq]
  generalize (lg_sl ([.ref (xa 40 0), .ref (xa 42 0), .ref (xa 45 0), .int (nI (i)), .int (nI (a)), .int (nI (y))]) ++ List.replicate (8 - (lg_sl ([.ref (xa 40 0), .ref (xa 42 0), .ref (xa 45 0), .int (nI (i)), .int (nI (a)), .int (nI (y))])).length) Slot.unset).toArray = ls at hl ⊢
  have hl : lv_has ls 8 [(0, .ref (xa 40 0)), (1, .ref (xa 42 0)), (2, .ref (xa 45 0)), (3, .int (nI (i))), (4, .int (nI (a))), (5, .int (nI (y)))] := hl
  refine lv_iconst (v := nI (0)) hx hb dL_isPersecuted_0 (by decide +kernel) ?_
  refine lv_istore (lv' := [(6, .int (nI (0))), (0, .ref (xa 40 0)), (1, .ref (xa 42 0)), (2, .ref (xa 45 0)), (3, .int (nI (i))), (4, .int (nI (a))), (5, .int (nI (y)))]) hx hb dL_isPersecuted_1 hl (by decide) rfl (fun ls hl => ?_)
  have hl : lv_has ls 8 [(0, .ref (xa 40 0)), (1, .ref (xa 42 0)), (2, .ref (xa 45 0)), (3, .int (nI (i))), (4, .int (nI (a))), (5, .int (nI (y))), (6, .int (nI (0)))] := lv_sub hl [1, 2, 3, 4, 5, 6, 0] rfl
  refine lv_iconst (v := nI (0)) hx hb dL_isPersecuted_3 (by decide +kernel) ?_
  refine lv_istore (lv' := [(7, .int (nI (0))), (0, .ref (xa 40 0)), (1, .ref (xa 42 0)), (2, .ref (xa 45 0)), (3, .int (nI (i))), (4, .int (nI (a))), (5, .int (nI (y))), (6, .int (nI (0)))]) hx hb dL_isPersecuted_4 hl (by decide) rfl (fun ls hl => ?_)
  have hl : lv_has ls 8 [(0, .ref (xa 40 0)), (1, .ref (xa 42 0)), (2, .ref (xa 45 0)), (3, .int (nI (i))), (4, .int (nI (a))), (5, .int (nI (y))), (6, .int (nI (0))), (7, .int (nI (0)))] := lv_sub hl [1, 2, 3, 4, 5, 6, 7, 0] rfl
  refine x_loop (X := Nat × Nat) (I := fun n xv H locs ls => n = σ 7 0 - xv.2 ∧ xW D sa A s xa (G) H locs ∧ lv_has ls 8 [(0, .ref (xa 40 0)), (1, .ref (xa 42 0)), (2, .ref (xa 45 0)), (3, .int (nI (i))), (4, .int (nI (a))), (5, .int (nI (y))), (6, .int (nI (xv.1))), (7, .int (nI (xv.2)))] ∧ (Cn (fun j => σ 6 (4 * j) = σ 1 i ∧ σ 6 (4 * j + 1) = a ∧ σ 6 (4 * j + 2) ≤ y ∧ y ≤ σ 6 (4 * j + 3)) xv.1 xv.2) ∧ (xv.1 ≤ xv.2) ∧ (xv.2 ≤ σ 7 0)) (hd := 6) ?_ (n := _) (x := (0, 0)) ⟨rfl, hW, hl, Cn_0 _, by (try dsimp only); omega, by (try dsimp only); omega⟩
  rintro n ⟨nn, k⟩ H locs ls ⟨hn, hW, hl, hc, hnk, hk⟩ ih6
  try dsimp only at hn hW hl hc hnk hk
  refine lv_iload hx hb dL_isPersecuted_6 (lv_at hl 7 rfl) ?_
  refine lv_aload_n hx hb dL_isPersecuted_8 rfl (lv_at hl 2 rfl) ?_
  refine lv_iconst (v := nI (1)) hx hb dL_isPersecuted_9 (by decide +kernel) ?_
  refine x_ild hx hb hW 45 0 (LA_45 hA) (1) rfl (by omega) (by omega) (v := nI (σ 7 0)) rfl dL_isPersecuted_10 ?_
  have b_10 := hB 7 0
  refine lv_icmp_ge (tgt := 84) hx hb dL_isPersecuted_11 (by decide) (fun c_11 => ?_) (fun c_11 => ?_)
  · -- ge taken
    have c_11 := Int32.le_iff_toInt_le.mp c_11
    rw [nI_toInt (n := k) (by omega)] at c_11
    rw [nI_toInt (n := σ 7 0) (by omega)] at c_11
    refine lv_iload hx hb dL_isPersecuted_84 (lv_at hl 6 rfl) ?_
    refine lv_if_le (tgt := 93) hx hb dL_isPersecuted_86 (by decide) (fun c_86 => ?_) (fun c_86 => ?_)
    · -- le taken
      have c_86 := Int32.le_iff_toInt_le.mp c_86
      rw [nI_toInt (n := nn) (by omega)] at c_86
      rw [x_t0] at c_86
      refine lv_iconst (v := nI (0)) hx hb dL_isPersecuted_93 (by decide +kernel) ?_
      exact xe_i hx hb hr rfl hlocks hW ⟨rfl, tv.zero (by rintro ⟨j, z0, z1⟩; exact Cn_f hc (by omega) (j := j) (by omega) z1)⟩ (Nat.le_of_ble_eq_true rfl) (Nat.le_of_ble_eq_true rfl) dL_isPersecuted_94
    · -- le not
      have c_86 : ¬ ((nI (nn)).toInt ≤ ((0 : Int32)).toInt) := fun h => c_86 (Int32.le_iff_toInt_le.mpr h)
      rw [nI_toInt (n := nn) (by omega)] at c_86
      rw [x_t0] at c_86
      refine lv_iconst (v := nI (1)) hx hb dL_isPersecuted_89 (by decide +kernel) ?_
      refine lv_goto (tgt := 94) hx hb dL_isPersecuted_90 (by decide) ?_
      exact xe_i hx hb hr rfl hlocks hW ⟨rfl, tv.one (by obtain ⟨j, z0, z1⟩ := Cn_t hc (by omega); exact ⟨j, by omega, z1⟩)⟩ (Nat.le_of_ble_eq_true rfl) (Nat.le_of_ble_eq_true rfl) dL_isPersecuted_94
  · -- ge not
    have c_11 : ¬ ((nI (σ 7 0)).toInt ≤ (nI (k)).toInt) := fun h => c_11 (Int32.le_iff_toInt_le.mpr h)
    rw [nI_toInt (n := k) (by omega)] at c_11
    rw [nI_toInt (n := σ 7 0) (by omega)] at c_11
    refine lv_iload hx hb dL_isPersecuted_14 (lv_at hl 6 rfl) ?_
    refine lv_aload_n hx hb dL_isPersecuted_16 rfl (lv_at hl 1 rfl) ?_
    refine lv_iconst (v := nI (4)) hx hb dL_isPersecuted_17 (by decide +kernel) ?_
    refine lv_iload hx hb dL_isPersecuted_18 (lv_at hl 7 rfl) ?_
    refine lv_imul hx hb dL_isPersecuted_20 ?_
    rw [pk_mul]
    refine x_ild hx hb hW 42 0 (LA_42 hA) (4 * k) rfl (by omega) (by omega) (v := nI (σ 6 (4 * k))) rfl dL_isPersecuted_21 ?_
    have b_21 := hB 6 (4 * k)
    refine lv_aload_n hx hb dL_isPersecuted_22 rfl (lv_at hl 0 rfl) ?_
    refine lv_iload_n hx hb dL_isPersecuted_23 rfl (lv_at hl 3 rfl) ?_
    refine x_ild hx hb hW 40 0 (LA_40 hA) (i) rfl (by omega) (by omega) (v := nI (σ 1 i + 8 * σ 2 i)) rfl dL_isPersecuted_24 ?_
    have b_24 := LI.pb hI (i := i) (by omega)
    refine lv_bipush (v := nI (8)) hx hb dL_isPersecuted_25 (by decide +kernel) ?_
    refine lv_irem hx hb dL_isPersecuted_27 (nI_ne0 (n := 8) (by omega) (by omega)) ?_
    rw [n_rem (a := σ 1 i + 8 * σ 2 i) (d := 8) (by omega) (by omega) (by omega)]
    refine lv_icmp_ne (tgt := 74) hx hb dL_isPersecuted_28 (by decide) (fun c_28 => ?_) (fun c_28 => ?_)
    · -- ne taken
      have c_28 : ¬ (σ 6 (4 * k) = (σ 1 i + 8 * σ 2 i) % 8) := fun h_ => c_28 ((x_eqN (a := σ 6 (4 * k)) (b := (σ 1 i + 8 * σ 2 i) % 8) (by omega) (by omega)).mpr h_)
      refine lv_iconst (v := nI (0)) hx hb dL_isPersecuted_74 (by decide +kernel) ?_
      refine lv_iadd hx hb dL_isPersecuted_75 ?_
      rw [nI_add]
      refine lv_istore (lv' := [(6, .int (nI (nn + 0))), (0, .ref (xa 40 0)), (1, .ref (xa 42 0)), (2, .ref (xa 45 0)), (3, .int (nI (i))), (4, .int (nI (a))), (5, .int (nI (y))), (7, .int (nI (k)))]) hx hb dL_isPersecuted_76 hl (by decide) rfl (fun ls hl => ?_)
      have hl : lv_has ls 8 [(0, .ref (xa 40 0)), (1, .ref (xa 42 0)), (2, .ref (xa 45 0)), (3, .int (nI (i))), (4, .int (nI (a))), (5, .int (nI (y))), (6, .int (nI (nn + 0))), (7, .int (nI (k)))] := lv_sub hl [1, 2, 3, 4, 5, 6, 0, 7] rfl
      refine lv_iinc (v := nI (k + 1)) (lv' := [(7, .int (nI (k + 1))), (0, .ref (xa 40 0)), (1, .ref (xa 42 0)), (2, .ref (xa 45 0)), (3, .int (nI (i))), (4, .int (nI (a))), (5, .int (nI (y))), (6, .int (nI (nn + 0)))]) hx hb dL_isPersecuted_78 hl (k := 7) rfl (x_inc k 1 rfl) (by decide) rfl (fun ls hl => ?_)
      have hl : lv_has ls 8 [(0, .ref (xa 40 0)), (1, .ref (xa 42 0)), (2, .ref (xa 45 0)), (3, .int (nI (i))), (4, .int (nI (a))), (5, .int (nI (y))), (6, .int (nI (nn + 0))), (7, .int (nI (k + 1)))] := lv_sub hl [1, 2, 3, 4, 5, 6, 7, 0] rfl
      refine lv_goto (tgt := 6) hx hb dL_isPersecuted_81 (by decide) ?_
      exact ih6 (σ 7 0 - (k + 1)) (nn + 0, k + 1) _ _ _ (by omega) ⟨rfl, hW, hl, Cn_no hc (fun z => by obtain ⟨z1, z2, z3, z4⟩ := z; omega), by (try dsimp only); omega, by (try dsimp only); omega⟩
    · -- ne not
      have c_28 := (x_eqN (a := σ 6 (4 * k)) (b := (σ 1 i + 8 * σ 2 i) % 8) (by omega) (by omega)).mp c_28
      refine lv_aload_n hx hb dL_isPersecuted_31 rfl (lv_at hl 1 rfl) ?_
      refine lv_iconst (v := nI (4)) hx hb dL_isPersecuted_32 (by decide +kernel) ?_
      refine lv_iload hx hb dL_isPersecuted_33 (lv_at hl 7 rfl) ?_
      refine lv_imul hx hb dL_isPersecuted_35 ?_
      rw [pk_mul]
      refine lv_iconst (v := nI (1)) hx hb dL_isPersecuted_36 (by decide +kernel) ?_
      refine lv_iadd hx hb dL_isPersecuted_37 ?_
      rw [nI_add]
      refine x_ild hx hb hW 42 0 (LA_42 hA) (4 * k + 1) rfl (by omega) (by omega) (v := nI (σ 6 (4 * k + 1))) rfl dL_isPersecuted_38 ?_
      have b_38 := hB 6 (4 * k + 1)
      refine lv_iload hx hb dL_isPersecuted_39 (lv_at hl 4 rfl) ?_
      refine lv_icmp_ne (tgt := 74) hx hb dL_isPersecuted_41 (by decide) (fun c_41 => ?_) (fun c_41 => ?_)
      · -- ne taken
        have c_41 : ¬ (σ 6 (4 * k + 1) = a) := fun h_ => c_41 ((x_eqN (a := σ 6 (4 * k + 1)) (b := a) (by omega) (by omega)).mpr h_)
        refine lv_iconst (v := nI (0)) hx hb dL_isPersecuted_74 (by decide +kernel) ?_
        refine lv_iadd hx hb dL_isPersecuted_75 ?_
        rw [nI_add]
        refine lv_istore (lv' := [(6, .int (nI (nn + 0))), (0, .ref (xa 40 0)), (1, .ref (xa 42 0)), (2, .ref (xa 45 0)), (3, .int (nI (i))), (4, .int (nI (a))), (5, .int (nI (y))), (7, .int (nI (k)))]) hx hb dL_isPersecuted_76 hl (by decide) rfl (fun ls hl => ?_)
        have hl : lv_has ls 8 [(0, .ref (xa 40 0)), (1, .ref (xa 42 0)), (2, .ref (xa 45 0)), (3, .int (nI (i))), (4, .int (nI (a))), (5, .int (nI (y))), (6, .int (nI (nn + 0))), (7, .int (nI (k)))] := lv_sub hl [1, 2, 3, 4, 5, 6, 0, 7] rfl
        refine lv_iinc (v := nI (k + 1)) (lv' := [(7, .int (nI (k + 1))), (0, .ref (xa 40 0)), (1, .ref (xa 42 0)), (2, .ref (xa 45 0)), (3, .int (nI (i))), (4, .int (nI (a))), (5, .int (nI (y))), (6, .int (nI (nn + 0)))]) hx hb dL_isPersecuted_78 hl (k := 7) rfl (x_inc k 1 rfl) (by decide) rfl (fun ls hl => ?_)
        have hl : lv_has ls 8 [(0, .ref (xa 40 0)), (1, .ref (xa 42 0)), (2, .ref (xa 45 0)), (3, .int (nI (i))), (4, .int (nI (a))), (5, .int (nI (y))), (6, .int (nI (nn + 0))), (7, .int (nI (k + 1)))] := lv_sub hl [1, 2, 3, 4, 5, 6, 7, 0] rfl
        refine lv_goto (tgt := 6) hx hb dL_isPersecuted_81 (by decide) ?_
        exact ih6 (σ 7 0 - (k + 1)) (nn + 0, k + 1) _ _ _ (by omega) ⟨rfl, hW, hl, Cn_no hc (fun z => by obtain ⟨z1, z2, z3, z4⟩ := z; omega), by (try dsimp only); omega, by (try dsimp only); omega⟩
      · -- ne not
        have c_41 := (x_eqN (a := σ 6 (4 * k + 1)) (b := a) (by omega) (by omega)).mp c_41
        refine lv_aload_n hx hb dL_isPersecuted_44 rfl (lv_at hl 1 rfl) ?_
        refine lv_iconst (v := nI (4)) hx hb dL_isPersecuted_45 (by decide +kernel) ?_
        refine lv_iload hx hb dL_isPersecuted_46 (lv_at hl 7 rfl) ?_
        refine lv_imul hx hb dL_isPersecuted_48 ?_
        rw [pk_mul]
        refine lv_iconst (v := nI (2)) hx hb dL_isPersecuted_49 (by decide +kernel) ?_
        refine lv_iadd hx hb dL_isPersecuted_50 ?_
        rw [nI_add]
        refine x_ild hx hb hW 42 0 (LA_42 hA) (4 * k + 2) rfl (by omega) (by omega) (v := nI (σ 6 (4 * k + 2))) rfl dL_isPersecuted_51 ?_
        have b_51 := hB 6 (4 * k + 2)
        refine lv_iload hx hb dL_isPersecuted_52 (lv_at hl 5 rfl) ?_
        refine lv_icmp_gt (tgt := 74) hx hb dL_isPersecuted_54 (by decide) (fun c_54 => ?_) (fun c_54 => ?_)
        · -- gt taken
          have c_54 := Int32.lt_iff_toInt_lt.mp c_54
          rw [nI_toInt (n := σ 6 (4 * k + 2)) (by omega)] at c_54
          rw [nI_toInt (n := y) (by omega)] at c_54
          refine lv_iconst (v := nI (0)) hx hb dL_isPersecuted_74 (by decide +kernel) ?_
          refine lv_iadd hx hb dL_isPersecuted_75 ?_
          rw [nI_add]
          refine lv_istore (lv' := [(6, .int (nI (nn + 0))), (0, .ref (xa 40 0)), (1, .ref (xa 42 0)), (2, .ref (xa 45 0)), (3, .int (nI (i))), (4, .int (nI (a))), (5, .int (nI (y))), (7, .int (nI (k)))]) hx hb dL_isPersecuted_76 hl (by decide) rfl (fun ls hl => ?_)
          have hl : lv_has ls 8 [(0, .ref (xa 40 0)), (1, .ref (xa 42 0)), (2, .ref (xa 45 0)), (3, .int (nI (i))), (4, .int (nI (a))), (5, .int (nI (y))), (6, .int (nI (nn + 0))), (7, .int (nI (k)))] := lv_sub hl [1, 2, 3, 4, 5, 6, 0, 7] rfl
          refine lv_iinc (v := nI (k + 1)) (lv' := [(7, .int (nI (k + 1))), (0, .ref (xa 40 0)), (1, .ref (xa 42 0)), (2, .ref (xa 45 0)), (3, .int (nI (i))), (4, .int (nI (a))), (5, .int (nI (y))), (6, .int (nI (nn + 0)))]) hx hb dL_isPersecuted_78 hl (k := 7) rfl (x_inc k 1 rfl) (by decide) rfl (fun ls hl => ?_)
          have hl : lv_has ls 8 [(0, .ref (xa 40 0)), (1, .ref (xa 42 0)), (2, .ref (xa 45 0)), (3, .int (nI (i))), (4, .int (nI (a))), (5, .int (nI (y))), (6, .int (nI (nn + 0))), (7, .int (nI (k + 1)))] := lv_sub hl [1, 2, 3, 4, 5, 6, 7, 0] rfl
          refine lv_goto (tgt := 6) hx hb dL_isPersecuted_81 (by decide) ?_
          exact ih6 (σ 7 0 - (k + 1)) (nn + 0, k + 1) _ _ _ (by omega) ⟨rfl, hW, hl, Cn_no hc (fun z => by obtain ⟨z1, z2, z3, z4⟩ := z; omega), by (try dsimp only); omega, by (try dsimp only); omega⟩
        · -- gt not
          have c_54 : ¬ ((nI (y)).toInt < (nI (σ 6 (4 * k + 2))).toInt) := fun h => c_54 (Int32.lt_iff_toInt_lt.mpr h)
          rw [nI_toInt (n := σ 6 (4 * k + 2)) (by omega)] at c_54
          rw [nI_toInt (n := y) (by omega)] at c_54
          refine lv_iload hx hb dL_isPersecuted_57 (lv_at hl 5 rfl) ?_
          refine lv_aload_n hx hb dL_isPersecuted_59 rfl (lv_at hl 1 rfl) ?_
          refine lv_iconst (v := nI (4)) hx hb dL_isPersecuted_60 (by decide +kernel) ?_
          refine lv_iload hx hb dL_isPersecuted_61 (lv_at hl 7 rfl) ?_
          refine lv_imul hx hb dL_isPersecuted_63 ?_
          rw [pk_mul]
          refine lv_iconst (v := nI (3)) hx hb dL_isPersecuted_64 (by decide +kernel) ?_
          refine lv_iadd hx hb dL_isPersecuted_65 ?_
          rw [nI_add]
          refine x_ild hx hb hW 42 0 (LA_42 hA) (4 * k + 3) rfl (by omega) (by omega) (v := nI (σ 6 (4 * k + 3))) rfl dL_isPersecuted_66 ?_
          have b_66 := hB 6 (4 * k + 3)
          refine lv_icmp_gt (tgt := 74) hx hb dL_isPersecuted_67 (by decide) (fun c_67 => ?_) (fun c_67 => ?_)
          · -- gt taken
            have c_67 := Int32.lt_iff_toInt_lt.mp c_67
            rw [nI_toInt (n := y) (by omega)] at c_67
            rw [nI_toInt (n := σ 6 (4 * k + 3)) (by omega)] at c_67
            refine lv_iconst (v := nI (0)) hx hb dL_isPersecuted_74 (by decide +kernel) ?_
            refine lv_iadd hx hb dL_isPersecuted_75 ?_
            rw [nI_add]
            refine lv_istore (lv' := [(6, .int (nI (nn + 0))), (0, .ref (xa 40 0)), (1, .ref (xa 42 0)), (2, .ref (xa 45 0)), (3, .int (nI (i))), (4, .int (nI (a))), (5, .int (nI (y))), (7, .int (nI (k)))]) hx hb dL_isPersecuted_76 hl (by decide) rfl (fun ls hl => ?_)
            have hl : lv_has ls 8 [(0, .ref (xa 40 0)), (1, .ref (xa 42 0)), (2, .ref (xa 45 0)), (3, .int (nI (i))), (4, .int (nI (a))), (5, .int (nI (y))), (6, .int (nI (nn + 0))), (7, .int (nI (k)))] := lv_sub hl [1, 2, 3, 4, 5, 6, 0, 7] rfl
            refine lv_iinc (v := nI (k + 1)) (lv' := [(7, .int (nI (k + 1))), (0, .ref (xa 40 0)), (1, .ref (xa 42 0)), (2, .ref (xa 45 0)), (3, .int (nI (i))), (4, .int (nI (a))), (5, .int (nI (y))), (6, .int (nI (nn + 0)))]) hx hb dL_isPersecuted_78 hl (k := 7) rfl (x_inc k 1 rfl) (by decide) rfl (fun ls hl => ?_)
            have hl : lv_has ls 8 [(0, .ref (xa 40 0)), (1, .ref (xa 42 0)), (2, .ref (xa 45 0)), (3, .int (nI (i))), (4, .int (nI (a))), (5, .int (nI (y))), (6, .int (nI (nn + 0))), (7, .int (nI (k + 1)))] := lv_sub hl [1, 2, 3, 4, 5, 6, 7, 0] rfl
            refine lv_goto (tgt := 6) hx hb dL_isPersecuted_81 (by decide) ?_
            exact ih6 (σ 7 0 - (k + 1)) (nn + 0, k + 1) _ _ _ (by omega) ⟨rfl, hW, hl, Cn_no hc (fun z => by obtain ⟨z1, z2, z3, z4⟩ := z; omega), by (try dsimp only); omega, by (try dsimp only); omega⟩
          · -- gt not
            have c_67 : ¬ ((nI (σ 6 (4 * k + 3))).toInt < (nI (y)).toInt) := fun h => c_67 (Int32.lt_iff_toInt_lt.mpr h)
            rw [nI_toInt (n := y) (by omega)] at c_67
            rw [nI_toInt (n := σ 6 (4 * k + 3)) (by omega)] at c_67
            refine lv_iconst (v := nI (1)) hx hb dL_isPersecuted_70 (by decide +kernel) ?_
            refine lv_goto (tgt := 75) hx hb dL_isPersecuted_71 (by decide) ?_
            refine lv_iadd hx hb dL_isPersecuted_75 ?_
            rw [nI_add]
            refine lv_istore (lv' := [(6, .int (nI (nn + 1))), (0, .ref (xa 40 0)), (1, .ref (xa 42 0)), (2, .ref (xa 45 0)), (3, .int (nI (i))), (4, .int (nI (a))), (5, .int (nI (y))), (7, .int (nI (k)))]) hx hb dL_isPersecuted_76 hl (by decide) rfl (fun ls hl => ?_)
            have hl : lv_has ls 8 [(0, .ref (xa 40 0)), (1, .ref (xa 42 0)), (2, .ref (xa 45 0)), (3, .int (nI (i))), (4, .int (nI (a))), (5, .int (nI (y))), (6, .int (nI (nn + 1))), (7, .int (nI (k)))] := lv_sub hl [1, 2, 3, 4, 5, 6, 0, 7] rfl
            refine lv_iinc (v := nI (k + 1)) (lv' := [(7, .int (nI (k + 1))), (0, .ref (xa 40 0)), (1, .ref (xa 42 0)), (2, .ref (xa 45 0)), (3, .int (nI (i))), (4, .int (nI (a))), (5, .int (nI (y))), (6, .int (nI (nn + 1)))]) hx hb dL_isPersecuted_78 hl (k := 7) rfl (x_inc k 1 rfl) (by decide) rfl (fun ls hl => ?_)
            have hl : lv_has ls 8 [(0, .ref (xa 40 0)), (1, .ref (xa 42 0)), (2, .ref (xa 45 0)), (3, .int (nI (i))), (4, .int (nI (a))), (5, .int (nI (y))), (6, .int (nI (nn + 1))), (7, .int (nI (k + 1)))] := lv_sub hl [1, 2, 3, 4, 5, 6, 7, 0] rfl
            refine lv_goto (tgt := 6) hx hb dL_isPersecuted_81 (by decide) ?_
            exact ih6 (σ 7 0 - (k + 1)) (nn + 1, k + 1) _ _ _ (by omega) ⟨rfl, hW, hl, Cn_yes (P := (fun j => σ 6 (4 * j) = σ 1 i ∧ σ 6 (4 * j + 1) = a ∧ σ 6 (4 * j + 2) ≤ y ∧ y ≤ σ 6 (4 * j + 3))) ⟨by omega, by omega, by omega, by omega⟩, by (try dsimp only); omega, by (try dsimp only); omega⟩

set_option maxHeartbeats 4000000 in
set_option maxRecDepth 100000 in
theorem c_L_at (l : Launch) (D : xD) (sa : Nat → Nat) (xa : xA) (G : xG) (σ : Sg) (hI : LI σ) (hA : LAs D G σ) (t q : Nat) (ht : t < 3) (hq : q < σ 11 t) : xCi l yL_at wsL_at ({ frames := 10, cells := 0, slots := 0, locals := 200 } : Room) D sa xa G [.ref (xa 44 0), .ref (xa 45 0), .int (nI (t)), .int (nI (q))] (fun r u => u = (xa, G) ∧ r = nI (ordr σ t q)) 0 0 := by
  have hg := hI.1
  have hB := hg.1
  have h5 := hI.2.1
  have h12 := hI.2.2.1
  have h7 := hI.2.2.2
  have hs8 := hg.hs8
  have hy0 := hg.2.1.2.2.2.1
  have hy1 := hg.2.1.2.2.2.2
  have h8t := hs8 t
  intro sz
  refine Met.ofW (cc := cL_at) (maxL := 9) (ret := (some .int)) (by decide +kernel) rfl ?_
  intro p e s m args below meth c s₁ B hml hv
  obtain ⟨rfl, hsz, hv2⟩ := hv
  subst hsz
  have hx := B.exec
  have hb := B.bytes
  have hr := B.returns
  have hts := atoms_spec (ws := wsL_at) B.pre
  have hown : s.vm.findClass RL = some m.cls := findClass_of_methodNamed B.named
  have hlocks := B.notSynchronized
  have hW := xW.start (s := s) ⟨rfl, hv2⟩
  clear hv2
  generalize xAw xa (G) s.heap.size = A at hW ⊢
  have hl := lv_entry ([.ref (xa 44 0), .ref (xa 45 0), .int (nI (t)), .int (nI (q))]) (n := 9) (Nat.le_of_ble_eq_true rfl)
  rw [lg_entry_eq]
  generalize (lg_sl ([.ref (xa 44 0), .ref (xa 45 0), .int (nI (t)), .int (nI (q))]) ++ List.replicate (9 - (lg_sl ([.ref (xa 44 0), .ref (xa 45 0), .int (nI (t)), .int (nI (q))])).length) Slot.unset).toArray = ls at hl ⊢
  have hl : lv_has ls 9 [(0, .ref (xa 44 0)), (1, .ref (xa 45 0)), (2, .int (nI (t))), (3, .int (nI (q)))] := hl
  refine lv_iconst (v := nI (0)) hx hb dL_at_0 (by decide +kernel) ?_
  refine lv_istore (lv' := [(4, .int (nI (0))), (0, .ref (xa 44 0)), (1, .ref (xa 45 0)), (2, .int (nI (t))), (3, .int (nI (q)))]) hx hb dL_at_1 hl (by decide) rfl (fun ls hl => ?_)
  have hl : lv_has ls 9 [(0, .ref (xa 44 0)), (1, .ref (xa 45 0)), (2, .int (nI (t))), (3, .int (nI (q))), (4, .int (nI (0)))] := lv_sub hl [1, 2, 3, 4, 0] rfl
  refine lv_iconst (v := -1) hx hb dL_at_3 (by decide +kernel) ?_
  refine lv_istore (lv' := [(5, .int (-1)), (0, .ref (xa 44 0)), (1, .ref (xa 45 0)), (2, .int (nI (t))), (3, .int (nI (q))), (4, .int (nI (0)))]) hx hb dL_at_4 hl (by decide) rfl (fun ls hl => ?_)
  have hl : lv_has ls 9 [(0, .ref (xa 44 0)), (1, .ref (xa 45 0)), (2, .int (nI (t))), (3, .int (nI (q))), (4, .int (nI (0))), (5, .int (-1))] := lv_sub hl [1, 2, 3, 4, 5, 0] rfl
  refine lv_iconst (v := nI (0)) hx hb dL_at_6 (by decide +kernel) ?_
  refine lv_istore (lv' := [(6, .int (nI (0))), (0, .ref (xa 44 0)), (1, .ref (xa 45 0)), (2, .int (nI (t))), (3, .int (nI (q))), (4, .int (nI (0))), (5, .int (-1))]) hx hb dL_at_7 hl (by decide) rfl (fun ls hl => ?_)
  have hl : lv_has ls 9 [(0, .ref (xa 44 0)), (1, .ref (xa 45 0)), (2, .int (nI (t))), (3, .int (nI (q))), (4, .int (nI (0))), (5, .int (-1)), (6, .int (nI (0)))] := lv_sub hl [1, 2, 3, 4, 5, 6, 0] rfl
  refine x_loop (X := Nat × (Option Nat) × Nat) (I := fun n xv H locs ls => n = q + 1 - xv.2.2 ∧ xW D sa A s xa (G) H locs ∧ lv_has ls 9 [(0, .ref (xa 44 0)), (1, .ref (xa 45 0)), (2, .int (nI (t))), (3, .int (nI (q))), (4, .int (nI (xv.1))), (5, .int (oi xv.2.1)), (6, .int (nI (xv.2.2)))] ∧ (Tk (yrs σ t) (σ 11 t) xv.2.2 xv.1) ∧ (xv.1 < 256) ∧ (0 < xv.2.2 → xv.2.1 = some (od (yrs σ t) (σ 11 t) (xv.2.2 - 1))) ∧ (xv.2.2 ≤ q + 1)) (hd := 9) ?_ (n := _) (x := (0, none, 0)) ⟨rfl, hW, hl, Tk_0 _ _, by (try dsimp only); omega, fun h => absurd h (Nat.lt_irrefl 0), by (try dsimp only); omega⟩
  rintro n ⟨tk, r, np⟩ H locs ls ⟨hn, hW, hl, hTk, htk, hro, hn1⟩ ih9
  try dsimp only at hn hW hl hTk htk hro hn1
  refine lv_iload hx hb dL_at_9 (lv_at hl 6 rfl) ?_
  refine lv_iload_n hx hb dL_at_11 rfl (lv_at hl 3 rfl) ?_
  refine lv_icmp_gt (tgt := 133) hx hb dL_at_12 (by decide) (fun c_12 => ?_) (fun c_12 => ?_)
  · -- gt taken
    have c_12 := Int32.lt_iff_toInt_lt.mp c_12
    rw [nI_toInt (n := np) (by omega)] at c_12
    rw [nI_toInt (n := q) (by omega)] at c_12
    refine lv_iload hx hb dL_at_133 (lv_at hl 5 rfl) ?_
    exact xe_i hx hb hr rfl hlocks hW ⟨rfl, by rw [hro (by omega), show np - 1 = q by omega]; rfl⟩ (Nat.le_of_ble_eq_true rfl) (Nat.le_of_ble_eq_true rfl) dL_at_135
  · -- gt not
    have c_12 : ¬ ((nI (q)).toInt < (nI (np)).toInt) := fun h => c_12 (Int32.lt_iff_toInt_lt.mpr h)
    rw [nI_toInt (n := np) (by omega)] at c_12
    rw [nI_toInt (n := q) (by omega)] at c_12
    refine lv_iconst (v := -1) hx hb dL_at_15 (by decide +kernel) ?_
    refine lv_istore (lv' := [(5, .int (-1)), (0, .ref (xa 44 0)), (1, .ref (xa 45 0)), (2, .int (nI (t))), (3, .int (nI (q))), (4, .int (nI (tk))), (6, .int (nI (np)))]) hx hb dL_at_16 hl (by decide) rfl (fun ls hl => ?_)
    have hl : lv_has ls 9 [(0, .ref (xa 44 0)), (1, .ref (xa 45 0)), (2, .int (nI (t))), (3, .int (nI (q))), (4, .int (nI (tk))), (5, .int (-1)), (6, .int (nI (np)))] := lv_sub hl [1, 2, 3, 4, 5, 0, 6] rfl
    refine lv_aload_n hx hb dL_at_18 rfl (lv_at hl 1 rfl) ?_
    refine lv_iconst (v := nI (2)) hx hb dL_at_19 (by decide +kernel) ?_
    refine lv_iload_n hx hb dL_at_20 rfl (lv_at hl 2 rfl) ?_
    refine lv_iadd hx hb dL_at_21 ?_
    rw [nI_add]
    refine x_ild hx hb hW 45 0 (LA_45 hA) (2 + t) rfl (by omega) (by omega) (v := nI (σ 11 t)) (congrArg nI (mv_2 σ (t := t) (by omega))) dL_at_22 ?_
    have b_22 := hB 11 t
    refine lv_iconst (v := nI (1)) hx hb dL_at_23 (by decide +kernel) ?_
    refine lv_isub hx hb dL_at_24 ?_
    refine lv_istore (lv' := [(7, .int (pm (σ 11 t))), (0, .ref (xa 44 0)), (1, .ref (xa 45 0)), (2, .int (nI (t))), (3, .int (nI (q))), (4, .int (nI (tk))), (5, .int (-1)), (6, .int (nI (np)))]) hx hb dL_at_25 hl (by decide) rfl (fun ls hl => ?_)
    have hl : lv_has ls 9 [(0, .ref (xa 44 0)), (1, .ref (xa 45 0)), (2, .int (nI (t))), (3, .int (nI (q))), (4, .int (nI (tk))), (5, .int (-1)), (6, .int (nI (np))), (7, .int (pm (σ 11 t)))] := lv_sub hl [1, 2, 3, 4, 5, 6, 7, 0] rfl
    refine x_loop (X := (Option Nat) × Nat) (I := fun n xv H locs ls => n = xv.2 ∧ xW D sa A s xa (G) H locs ∧ lv_has ls 9 [(0, .ref (xa 44 0)), (1, .ref (xa 45 0)), (2, .int (nI (t))), (3, .int (nI (q))), (4, .int (nI (tk))), (5, .int (oi xv.1)), (6, .int (nI (np))), (7, .int (pm xv.2))] ∧ (Lm (fun j => ¬ tk / 2 ^ j % 2 = 1) (yrs σ t) xv.2 (σ 11 t) xv.1) ∧ (xv.2 ≤ σ 11 t)) (hd := 27) ?_ (n := _) (x := (none, σ 11 t)) ⟨rfl, hW, hl, fun j h1 h2 => absurd h1 (by omega), by (try dsimp only); omega⟩
    rintro n ⟨r2, kk⟩ H locs ls ⟨hn, hW, hl, hLm, hkk⟩ ih27
    try dsimp only at hn hW hl hLm hkk
    rcases kk with _ | k
    ·
      rw [pm_0] at hl
      refine lv_iload hx hb dL_at_27 (lv_at hl 7 rfl) ?_
      refine lv_if_lt (tgt := 109) hx hb dL_at_29 (by decide) (fun c_29 => ?_) (fun c_29 => ?_)
      · -- lt taken
        have ho := od_lt (yr := yrs σ t) (n := σ 11 t) (q := np) (by omega)
        have hr2 := Tk_lm hTk (hs8 t) (by omega) hLm
        subst hr2
        have hl : lv_has ls 9 [(0, .ref (xa 44 0)), (1, .ref (xa 45 0)), (2, .int (nI (t))), (3, .int (nI (q))), (4, .int (nI (tk))), (5, .int (nI (od (yrs σ t) (σ 11 t) np))), (6, .int (nI (np))), (7, .int (-1))] := hl
        refine lv_iload hx hb dL_at_109 (lv_at hl 4 rfl) ?_
        refine lv_iload hx hb dL_at_111 (lv_at hl 5 rfl) ?_
        refine lv_if_ge (tgt := 120) hx hb dL_at_113 (by decide) (fun c_113 => ?_) (fun c_113 => ?_)
        · -- ge taken
          have c_113 := Int32.le_iff_toInt_le.mp c_113
          rw [nI_toInt (n := od (yrs σ t) (σ 11 t) np) (by omega)] at c_113
          rw [x_t0] at c_113
          refine lv_iconst (v := nI (1)) hx hb dL_at_120 (by decide +kernel) ?_
          refine lv_iload hx hb dL_at_121 (lv_at hl 5 rfl) ?_
          refine lv_ishl hx hb dL_at_123 ?_
          rw [bt_shl (b := od (yrs σ t) (σ 11 t) np) (by omega)]
          refine lv_ior hx hb dL_at_124 ?_
          rw [nI_or]
          refine lv_istore (lv' := [(4, .int (nI (tk ||| (2 ^ (od (yrs σ t) (σ 11 t) np))))), (0, .ref (xa 44 0)), (1, .ref (xa 45 0)), (2, .int (nI (t))), (3, .int (nI (q))), (5, .int (nI (od (yrs σ t) (σ 11 t) np))), (6, .int (nI (np))), (7, .int (-1))]) hx hb dL_at_125 hl (by decide) rfl (fun ls hl => ?_)
          have hl : lv_has ls 9 [(0, .ref (xa 44 0)), (1, .ref (xa 45 0)), (2, .int (nI (t))), (3, .int (nI (q))), (4, .int (nI (tk ||| (2 ^ (od (yrs σ t) (σ 11 t) np))))), (5, .int (nI (od (yrs σ t) (σ 11 t) np))), (6, .int (nI (np))), (7, .int (-1))] := lv_sub hl [1, 2, 3, 4, 0, 5, 6, 7] rfl
          refine lv_iinc (v := nI (np + 1)) (lv' := [(6, .int (nI (np + 1))), (0, .ref (xa 44 0)), (1, .ref (xa 45 0)), (2, .int (nI (t))), (3, .int (nI (q))), (4, .int (nI (tk ||| (2 ^ (od (yrs σ t) (σ 11 t) np))))), (5, .int (nI (od (yrs σ t) (σ 11 t) np))), (7, .int (-1))]) hx hb dL_at_127 hl (k := 6) rfl (x_inc np 1 rfl) (by decide) rfl (fun ls hl => ?_)
          have hl : lv_has ls 9 [(0, .ref (xa 44 0)), (1, .ref (xa 45 0)), (2, .int (nI (t))), (3, .int (nI (q))), (4, .int (nI (tk ||| (2 ^ (od (yrs σ t) (σ 11 t) np))))), (5, .int (nI (od (yrs σ t) (σ 11 t) np))), (6, .int (nI (np + 1))), (7, .int (-1))] := lv_sub hl [1, 2, 3, 4, 5, 6, 0, 7] rfl
          refine lv_goto (tgt := 9) hx hb dL_at_130 (by decide) ?_
          exact ih9 (q + 1 - (np + 1)) (tk ||| (2 ^ (od (yrs σ t) (σ 11 t) np)), some (od (yrs σ t) (σ 11 t) np), np + 1) _ _ _ (by omega) ⟨rfl, hW, lv_sub hl [0, 1, 2, 3, 4, 5, 6] rfl, Tk_next hTk, or_lt8 htk (by omega), fun _ => rfl, by (try dsimp only); omega⟩
        · -- ge not
          have c_113 : ¬ (((0 : Int32)).toInt ≤ (nI (od (yrs σ t) (σ 11 t) np)).toInt) := fun h => c_113 (Int32.le_iff_toInt_le.mpr h)
          rw [nI_toInt (n := od (yrs σ t) (σ 11 t) np) (by omega)] at c_113
          rw [x_t0] at c_113
          exact absurd c_113 (by omega)
      · -- lt not
        exact absurd (by decide) c_29
    ·
      rw [pm_s] at hl
      have hkc : k < σ 11 t := by omega
      refine lv_iload hx hb dL_at_27 (lv_at hl 7 rfl) ?_
      refine lv_if_lt (tgt := 109) hx hb dL_at_29 (by decide) (fun c_29 => ?_) (fun c_29 => ?_)
      · -- lt taken
        have c_29 := Int32.lt_iff_toInt_lt.mp c_29
        rw [nI_toInt (n := k) (by omega)] at c_29
        rw [x_t0] at c_29
        exact absurd c_29 (by omega)
      · -- lt not
        have c_29 : ¬ ((nI (k)).toInt < ((0 : Int32)).toInt) := fun h => c_29 (Int32.lt_iff_toInt_lt.mpr h)
        rw [nI_toInt (n := k) (by omega)] at c_29
        rw [x_t0] at c_29
        refine lv_iload hx hb dL_at_32 (lv_at hl 4 rfl) ?_
        refine lv_iload hx hb dL_at_34 (lv_at hl 7 rfl) ?_
        refine lv_ishr hx hb dL_at_36 ?_
        rw [bt_shr (m := tk) (b := k) (by omega) (by omega)]
        refine lv_iconst (v := nI (1)) hx hb dL_at_37 (by decide +kernel) ?_
        refine lv_iand hx hb dL_at_38 ?_
        rw [bt_and1]
        refine lv_if_ne (tgt := 46) hx hb dL_at_39 (by decide) (fun c_39 => ?_) (fun c_39 => ?_)
        · -- ne taken
          have c_39 : ¬ ((tk / 2 ^ k) % 2 = 0) := fun h_ => c_39 ((x_eqZ (a := (tk / 2 ^ k) % 2) (by omega)).mpr h_)
          refine lv_iconst (v := nI (0)) hx hb dL_at_46 (by decide +kernel) ?_
          refine lv_istore (lv' := [(8, .int (nI (0))), (0, .ref (xa 44 0)), (1, .ref (xa 45 0)), (2, .int (nI (t))), (3, .int (nI (q))), (4, .int (nI (tk))), (5, .int (oi r2)), (6, .int (nI (np))), (7, .int (nI (k)))]) hx hb dL_at_47 hl (by decide) rfl (fun ls hl => ?_)
          have hl : lv_has ls 9 [(0, .ref (xa 44 0)), (1, .ref (xa 45 0)), (2, .int (nI (t))), (3, .int (nI (q))), (4, .int (nI (tk))), (5, .int (oi r2)), (6, .int (nI (np))), (7, .int (nI (k))), (8, .int (nI (0)))] := lv_sub hl [1, 2, 3, 4, 5, 6, 7, 8, 0] rfl
          refine lv_iload hx hb dL_at_49 (lv_at hl 8 rfl) ?_
          refine lv_if_eq (tgt := 99) hx hb dL_at_51 (by decide) (fun c_51 => ?_) (fun c_51 => ?_)
          · -- eq taken
            refine lv_iload hx hb dL_at_99 (lv_at hl 5 rfl) ?_
            refine lv_istore (lv' := [(5, .int (oi r2)), (0, .ref (xa 44 0)), (1, .ref (xa 45 0)), (2, .int (nI (t))), (3, .int (nI (q))), (4, .int (nI (tk))), (6, .int (nI (np))), (7, .int (nI (k))), (8, .int (nI (0)))]) hx hb dL_at_101 hl (by decide) rfl (fun ls hl => ?_)
            have hl : lv_has ls 9 [(0, .ref (xa 44 0)), (1, .ref (xa 45 0)), (2, .int (nI (t))), (3, .int (nI (q))), (4, .int (nI (tk))), (5, .int (oi r2)), (6, .int (nI (np))), (7, .int (nI (k))), (8, .int (nI (0)))] := lv_sub hl [1, 2, 3, 4, 5, 0, 6, 7, 8] rfl
            refine lv_iinc (v := pm k) (lv' := [(7, .int (pm (k))), (0, .ref (xa 44 0)), (1, .ref (xa 45 0)), (2, .int (nI (t))), (3, .int (nI (q))), (4, .int (nI (tk))), (5, .int (oi r2)), (6, .int (nI (np))), (8, .int (nI (0)))]) hx hb dL_at_103 hl (k := 7) rfl (pm_d k) (by decide) rfl (fun ls hl => ?_)
            have hl : lv_has ls 9 [(0, .ref (xa 44 0)), (1, .ref (xa 45 0)), (2, .int (nI (t))), (3, .int (nI (q))), (4, .int (nI (tk))), (5, .int (oi r2)), (6, .int (nI (np))), (7, .int (pm (k))), (8, .int (nI (0)))] := lv_sub hl [1, 2, 3, 4, 5, 6, 7, 0, 8] rfl
            refine lv_goto (tgt := 27) hx hb dL_at_106 (by decide) ?_
            exact ih27 (k) (r2, k) _ _ _ (by omega) ⟨rfl, hW, lv_sub hl [0, 1, 2, 3, 4, 5, 6, 7] rfl, Lm_skip hLm (fun h_ => h_ (show tk / 2 ^ k % 2 = 1 by omega)), by (try dsimp only); omega⟩
          · -- eq not
            exact absurd (by decide) c_51
        · -- ne not
          have c_39 := (x_eqZ (a := (tk / 2 ^ k) % 2) (by omega)).mp c_39
          refine lv_iconst (v := nI (1)) hx hb dL_at_42 (by decide +kernel) ?_
          refine lv_goto (tgt := 47) hx hb dL_at_43 (by decide) ?_
          refine lv_istore (lv' := [(8, .int (nI (1))), (0, .ref (xa 44 0)), (1, .ref (xa 45 0)), (2, .int (nI (t))), (3, .int (nI (q))), (4, .int (nI (tk))), (5, .int (oi r2)), (6, .int (nI (np))), (7, .int (nI (k)))]) hx hb dL_at_47 hl (by decide) rfl (fun ls hl => ?_)
          have hl : lv_has ls 9 [(0, .ref (xa 44 0)), (1, .ref (xa 45 0)), (2, .int (nI (t))), (3, .int (nI (q))), (4, .int (nI (tk))), (5, .int (oi r2)), (6, .int (nI (np))), (7, .int (nI (k))), (8, .int (nI (1)))] := lv_sub hl [1, 2, 3, 4, 5, 6, 7, 8, 0] rfl
          refine lv_iload hx hb dL_at_49 (lv_at hl 8 rfl) ?_
          refine lv_if_eq (tgt := 99) hx hb dL_at_51 (by decide) (fun c_51 => ?_) (fun c_51 => ?_)
          · -- eq taken
            exact absurd c_51 (by decide)
          · -- eq not
            rcases r2 with _ | b
            ·
              have hl : lv_has ls 9 [(0, .ref (xa 44 0)), (1, .ref (xa 45 0)), (2, .int (nI (t))), (3, .int (nI (q))), (4, .int (nI (tk))), (5, .int (-1)), (6, .int (nI (np))), (7, .int (nI (k))), (8, .int (nI (1)))] := hl
              refine lv_iload hx hb dL_at_54 (lv_at hl 5 rfl) ?_
              refine lv_if_lt (tgt := 94) hx hb dL_at_56 (by decide) (fun c_56 => ?_) (fun c_56 => ?_)
              · -- lt taken
                refine lv_iload hx hb dL_at_94 (lv_at hl 7 rfl) ?_
                refine lv_goto (tgt := 101) hx hb dL_at_96 (by decide) ?_
                refine lv_istore (lv' := [(5, .int (nI (k))), (0, .ref (xa 44 0)), (1, .ref (xa 45 0)), (2, .int (nI (t))), (3, .int (nI (q))), (4, .int (nI (tk))), (6, .int (nI (np))), (7, .int (nI (k))), (8, .int (nI (1)))]) hx hb dL_at_101 hl (by decide) rfl (fun ls hl => ?_)
                have hl : lv_has ls 9 [(0, .ref (xa 44 0)), (1, .ref (xa 45 0)), (2, .int (nI (t))), (3, .int (nI (q))), (4, .int (nI (tk))), (5, .int (nI (k))), (6, .int (nI (np))), (7, .int (nI (k))), (8, .int (nI (1)))] := lv_sub hl [1, 2, 3, 4, 5, 0, 6, 7, 8] rfl
                refine lv_iinc (v := pm k) (lv' := [(7, .int (pm (k))), (0, .ref (xa 44 0)), (1, .ref (xa 45 0)), (2, .int (nI (t))), (3, .int (nI (q))), (4, .int (nI (tk))), (5, .int (nI (k))), (6, .int (nI (np))), (8, .int (nI (1)))]) hx hb dL_at_103 hl (k := 7) rfl (pm_d k) (by decide) rfl (fun ls hl => ?_)
                have hl : lv_has ls 9 [(0, .ref (xa 44 0)), (1, .ref (xa 45 0)), (2, .int (nI (t))), (3, .int (nI (q))), (4, .int (nI (tk))), (5, .int (nI (k))), (6, .int (nI (np))), (7, .int (pm (k))), (8, .int (nI (1)))] := lv_sub hl [1, 2, 3, 4, 5, 6, 7, 0, 8] rfl
                refine lv_goto (tgt := 27) hx hb dL_at_106 (by decide) ?_
                exact ih27 (k) (some (k), k) _ _ _ (by omega) ⟨rfl, hW, lv_sub hl [0, 1, 2, 3, 4, 5, 6, 7] rfl, Lm_none hLm (show ¬ tk / 2 ^ k % 2 = 1 by omega) hkc, by (try dsimp only); omega⟩
              · -- lt not
                exact absurd (by decide) c_56
            ·
              have hl : lv_has ls 9 [(0, .ref (xa 44 0)), (1, .ref (xa 45 0)), (2, .int (nI (t))), (3, .int (nI (q))), (4, .int (nI (tk))), (5, .int (nI (b))), (6, .int (nI (np))), (7, .int (nI (k))), (8, .int (nI (1)))] := hl
              have hb1 := hLm.1
              have hb2 := hLm.2.1
              refine lv_iload hx hb dL_at_54 (lv_at hl 5 rfl) ?_
              refine lv_if_lt (tgt := 94) hx hb dL_at_56 (by decide) (fun c_56 => ?_) (fun c_56 => ?_)
              · -- lt taken
                have c_56 := Int32.lt_iff_toInt_lt.mp c_56
                rw [nI_toInt (n := b) (by omega)] at c_56
                rw [x_t0] at c_56
                exact absurd c_56 (by omega)
              · -- lt not
                have c_56 : ¬ ((nI (b)).toInt < ((0 : Int32)).toInt) := fun h => c_56 (Int32.lt_iff_toInt_lt.mpr h)
                rw [nI_toInt (n := b) (by omega)] at c_56
                rw [x_t0] at c_56
                refine lv_aload_n hx hb dL_at_59 rfl (lv_at hl 0 rfl) ?_
                refine lv_bipush (v := nI (8)) hx hb dL_at_60 (by decide +kernel) ?_
                refine lv_iload_n hx hb dL_at_62 rfl (lv_at hl 2 rfl) ?_
                refine lv_imul hx hb dL_at_63 ?_
                rw [pk_mul]
                refine lv_iload hx hb dL_at_64 (lv_at hl 7 rfl) ?_
                refine lv_iadd hx hb dL_at_66 ?_
                rw [nI_add]
                refine x_ild hx hb hW 44 0 (LA_44 hA) (8 * t + k) rfl (by omega) (by omega) (v := nI (cpv σ (8 * t + k))) rfl dL_at_67 ?_
                have b_67 := LI.cp hI (t := t) (k := k) (by omega) (by omega)
                refine lv_bipush (v := nI (12)) hx hb dL_at_68 (by decide +kernel) ?_
                refine lv_ishr hx hb dL_at_70 ?_
                rw [bt_shr (m := cpv σ (8 * t + k)) (b := 12) (cp_lt b_67) (by omega)]
                refine lv_sipush (v := nI (255)) hx hb dL_at_71 (by decide +kernel) ?_
                refine lv_iand hx hb dL_at_74 ?_
                rw [cp_y b_67]
                have bb_74 := b_67
                unfold cpo at bb_74
                refine lv_aload_n hx hb dL_at_75 rfl (lv_at hl 0 rfl) ?_
                refine lv_bipush (v := nI (8)) hx hb dL_at_76 (by decide +kernel) ?_
                refine lv_iload_n hx hb dL_at_78 rfl (lv_at hl 2 rfl) ?_
                refine lv_imul hx hb dL_at_79 ?_
                rw [pk_mul]
                refine lv_iload hx hb dL_at_80 (lv_at hl 5 rfl) ?_
                refine lv_iadd hx hb dL_at_82 ?_
                rw [nI_add]
                refine x_ild hx hb hW 44 0 (LA_44 hA) (8 * t + b) rfl (by omega) (by omega) (v := nI (cpv σ (8 * t + b))) rfl dL_at_83 ?_
                have b_83 := LI.cp hI (t := t) (k := b) (by omega) (by omega)
                refine lv_bipush (v := nI (12)) hx hb dL_at_84 (by decide +kernel) ?_
                refine lv_ishr hx hb dL_at_86 ?_
                rw [bt_shr (m := cpv σ (8 * t + b)) (b := 12) (cp_lt b_83) (by omega)]
                refine lv_sipush (v := nI (255)) hx hb dL_at_87 (by decide +kernel) ?_
                refine lv_iand hx hb dL_at_90 ?_
                rw [cp_y b_83]
                have bb_90 := b_83
                unfold cpo at bb_90
                refine lv_icmp_gt (tgt := 99) hx hb dL_at_91 (by decide) (fun c_91 => ?_) (fun c_91 => ?_)
                · -- gt taken
                  have c_91 := Int32.lt_iff_toInt_lt.mp c_91
                  rw [nI_toInt (n := σ 16 (8 * t + k) - 1900) (by omega)] at c_91
                  rw [nI_toInt (n := σ 16 (8 * t + b) - 1900) (by omega)] at c_91
                  refine lv_iload hx hb dL_at_99 (lv_at hl 5 rfl) ?_
                  refine lv_istore (lv' := [(5, .int (nI (b))), (0, .ref (xa 44 0)), (1, .ref (xa 45 0)), (2, .int (nI (t))), (3, .int (nI (q))), (4, .int (nI (tk))), (6, .int (nI (np))), (7, .int (nI (k))), (8, .int (nI (1)))]) hx hb dL_at_101 hl (by decide) rfl (fun ls hl => ?_)
                  have hl : lv_has ls 9 [(0, .ref (xa 44 0)), (1, .ref (xa 45 0)), (2, .int (nI (t))), (3, .int (nI (q))), (4, .int (nI (tk))), (5, .int (nI (b))), (6, .int (nI (np))), (7, .int (nI (k))), (8, .int (nI (1)))] := lv_sub hl [1, 2, 3, 4, 5, 0, 6, 7, 8] rfl
                  refine lv_iinc (v := pm k) (lv' := [(7, .int (pm (k))), (0, .ref (xa 44 0)), (1, .ref (xa 45 0)), (2, .int (nI (t))), (3, .int (nI (q))), (4, .int (nI (tk))), (5, .int (nI (b))), (6, .int (nI (np))), (8, .int (nI (1)))]) hx hb dL_at_103 hl (k := 7) rfl (pm_d k) (by decide) rfl (fun ls hl => ?_)
                  have hl : lv_has ls 9 [(0, .ref (xa 44 0)), (1, .ref (xa 45 0)), (2, .int (nI (t))), (3, .int (nI (q))), (4, .int (nI (tk))), (5, .int (nI (b))), (6, .int (nI (np))), (7, .int (pm (k))), (8, .int (nI (1)))] := lv_sub hl [1, 2, 3, 4, 5, 6, 7, 0, 8] rfl
                  refine lv_goto (tgt := 27) hx hb dL_at_106 (by decide) ?_
                  exact ih27 (k) (some (b), k) _ _ _ (by omega) ⟨rfl, hW, lv_sub hl [0, 1, 2, 3, 4, 5, 6, 7] rfl, Lm_leave hLm (by show ¬ σ 16 (8 * t + k) ≤ σ 16 (8 * t + b); omega), by (try dsimp only); omega⟩
                · -- gt not
                  have c_91 : ¬ ((nI (σ 16 (8 * t + b) - 1900)).toInt < (nI (σ 16 (8 * t + k) - 1900)).toInt) := fun h => c_91 (Int32.lt_iff_toInt_lt.mpr h)
                  rw [nI_toInt (n := σ 16 (8 * t + k) - 1900) (by omega)] at c_91
                  rw [nI_toInt (n := σ 16 (8 * t + b) - 1900) (by omega)] at c_91
                  refine lv_iload hx hb dL_at_94 (lv_at hl 7 rfl) ?_
                  refine lv_goto (tgt := 101) hx hb dL_at_96 (by decide) ?_
                  refine lv_istore (lv' := [(5, .int (nI (k))), (0, .ref (xa 44 0)), (1, .ref (xa 45 0)), (2, .int (nI (t))), (3, .int (nI (q))), (4, .int (nI (tk))), (6, .int (nI (np))), (7, .int (nI (k))), (8, .int (nI (1)))]) hx hb dL_at_101 hl (by decide) rfl (fun ls hl => ?_)
                  have hl : lv_has ls 9 [(0, .ref (xa 44 0)), (1, .ref (xa 45 0)), (2, .int (nI (t))), (3, .int (nI (q))), (4, .int (nI (tk))), (5, .int (nI (k))), (6, .int (nI (np))), (7, .int (nI (k))), (8, .int (nI (1)))] := lv_sub hl [1, 2, 3, 4, 5, 0, 6, 7, 8] rfl
                  refine lv_iinc (v := pm k) (lv' := [(7, .int (pm (k))), (0, .ref (xa 44 0)), (1, .ref (xa 45 0)), (2, .int (nI (t))), (3, .int (nI (q))), (4, .int (nI (tk))), (5, .int (nI (k))), (6, .int (nI (np))), (8, .int (nI (1)))]) hx hb dL_at_103 hl (k := 7) rfl (pm_d k) (by decide) rfl (fun ls hl => ?_)
                  have hl : lv_has ls 9 [(0, .ref (xa 44 0)), (1, .ref (xa 45 0)), (2, .int (nI (t))), (3, .int (nI (q))), (4, .int (nI (tk))), (5, .int (nI (k))), (6, .int (nI (np))), (7, .int (pm (k))), (8, .int (nI (1)))] := lv_sub hl [1, 2, 3, 4, 5, 6, 7, 0, 8] rfl
                  refine lv_goto (tgt := 27) hx hb dL_at_106 (by decide) ?_
                  exact ih27 (k) (some (k), k) _ _ _ (by omega) ⟨rfl, hW, lv_sub hl [0, 1, 2, 3, 4, 5, 6, 7] rfl, Lm_take hLm (show ¬ tk / 2 ^ k % 2 = 1 by omega) (by show σ 16 (8 * t + k) ≤ σ 16 (8 * t + b); omega), by (try dsimp only); omega⟩
