/-! THE LAW: owners -/
set_option maxHeartbeats 4000000 in
set_option maxRecDepth 100000 in
theorem c_L_owner (l : Launch) (D : xD) (sa : Nat → Nat) (xa : xA) (G : xG) (σ : Sg) (hI : LI σ) (hA : LAs D G σ) (t : Nat) (ht : t < 3) : xCi l yL_owner wsL_owner ({ frames := 14, cells := 0, slots := 0, locals := 400 } : Room) D sa xa G [.ref (xa 40 0), .ref (xa 41 0), .ref (xa 42 0), .ref (xa 44 0), .ref (xa 45 0), .int (nI (t))] (fun r u => u = (xa, G) ∧ ∃ ro, r = oi ro ∧ own σ t ro) 0 0 := by
  have hg := hI.1
  have hB := hg.1
  have h5 := hI.2.1
  have h12 := hI.2.2.1
  have h7 := hI.2.2.2
  have hs8 := hg.hs8
  have hy0 := hg.2.1.2.2.2.1
  have hy1 := hg.2.1.2.2.2.2
  have h8t := hs8 t
  intro sz
  refine Met.ofW (cc := cL_owner) (maxL := 15) (ret := (some .int)) (by decide +kernel) rfl ?_
  intro p e s m args below meth c s₁ B hml hv
  obtain ⟨rfl, hsz, hv2⟩ := hv
  subst hsz
  have hx := B.exec
  have hb := B.bytes
  have hr := B.returns
  have hts := atoms_spec (ws := wsL_owner) B.pre
  have hown : s.vm.findClass RL = some m.cls := findClass_of_methodNamed B.named
  have hlocks := B.notSynchronized
  have hW := xW.start (s := s) ⟨rfl, hv2⟩
  clear hv2
  generalize xAw xa (G) s.heap.size = A at hW ⊢
  have hl := lv_entry ([.ref (xa 40 0), .ref (xa 41 0), .ref (xa 42 0), .ref (xa 44 0), .ref (xa 45 0), .int (nI (t))]) (n := 15) (Nat.le_of_ble_eq_true rfl)
  rw [lg_entry_eq]
  generalize (lg_sl ([.ref (xa 40 0), .ref (xa 41 0), .ref (xa 42 0), .ref (xa 44 0), .ref (xa 45 0), .int (nI (t))]) ++ List.replicate (15 - (lg_sl ([.ref (xa 40 0), .ref (xa 41 0), .ref (xa 42 0), .ref (xa 44 0), .ref (xa 45 0), .int (nI (t))])).length) Slot.unset).toArray = ls at hl ⊢
  have hl : lv_has ls 15 [(0, .ref (xa 40 0)), (1, .ref (xa 41 0)), (2, .ref (xa 42 0)), (3, .ref (xa 44 0)), (4, .ref (xa 45 0)), (5, .int (nI (t)))] := hl
  refine lv_iconst (v := -1) hx hb dL_owner_0 (by decide +kernel) ?_
  refine lv_istore (lv' := [(6, .int (-1)), (0, .ref (xa 40 0)), (1, .ref (xa 41 0)), (2, .ref (xa 42 0)), (3, .ref (xa 44 0)), (4, .ref (xa 45 0)), (5, .int (nI (t)))]) hx hb dL_owner_1 hl (by decide) rfl (fun ls hl => ?_)
  have hl : lv_has ls 15 [(0, .ref (xa 40 0)), (1, .ref (xa 41 0)), (2, .ref (xa 42 0)), (3, .ref (xa 44 0)), (4, .ref (xa 45 0)), (5, .int (nI (t))), (6, .int (-1))] := lv_sub hl [1, 2, 3, 4, 5, 6, 0] rfl
  refine lv_iconst (v := -1) hx hb dL_owner_3 (by decide +kernel) ?_
  refine lv_istore (lv' := [(7, .int (-1)), (0, .ref (xa 40 0)), (1, .ref (xa 41 0)), (2, .ref (xa 42 0)), (3, .ref (xa 44 0)), (4, .ref (xa 45 0)), (5, .int (nI (t))), (6, .int (-1))]) hx hb dL_owner_4 hl (by decide) rfl (fun ls hl => ?_)
  have hl : lv_has ls 15 [(0, .ref (xa 40 0)), (1, .ref (xa 41 0)), (2, .ref (xa 42 0)), (3, .ref (xa 44 0)), (4, .ref (xa 45 0)), (5, .int (nI (t))), (6, .int (-1)), (7, .int (-1))] := lv_sub hl [1, 2, 3, 4, 5, 6, 7, 0] rfl
  refine lv_iconst (v := nI (0)) hx hb dL_owner_6 (by decide +kernel) ?_
  refine lv_istore (lv' := [(8, .int (nI (0))), (0, .ref (xa 40 0)), (1, .ref (xa 41 0)), (2, .ref (xa 42 0)), (3, .ref (xa 44 0)), (4, .ref (xa 45 0)), (5, .int (nI (t))), (6, .int (-1)), (7, .int (-1))]) hx hb dL_owner_7 hl (by decide) rfl (fun ls hl => ?_)
  have hl : lv_has ls 15 [(0, .ref (xa 40 0)), (1, .ref (xa 41 0)), (2, .ref (xa 42 0)), (3, .ref (xa 44 0)), (4, .ref (xa 45 0)), (5, .int (nI (t))), (6, .int (-1)), (7, .int (-1)), (8, .int (nI (0)))] := lv_sub hl [1, 2, 3, 4, 5, 6, 7, 8, 0] rfl
  refine x_loop (X := (Option Nat) × (Option Nat) × Nat) (I := fun n xv H locs ls => n = σ 11 t - xv.2.2 ∧ xW D sa A s xa (G) H locs ∧ lv_has ls 15 [(0, .ref (xa 40 0)), (1, .ref (xa 41 0)), (2, .ref (xa 42 0)), (3, .ref (xa 44 0)), (4, .ref (xa 45 0)), (5, .int (nI (t))), (6, .int (oi xv.1)), (7, .int (oi xv.2.1)), (8, .int (nI (xv.2.2)))] ∧ (OwI σ t xv.2.2 xv.1 xv.2.1) ∧ (xv.2.2 ≤ σ 11 t)) (hd := 9) ?_ (n := _) (x := (none, none, 0)) ⟨rfl, hW, hl, OwI_0 _ _, by (try dsimp only); omega⟩
  rintro n ⟨r, ra, k⟩ H locs ls ⟨hn, hW, hl, hO, hk⟩ ih9
  try dsimp only at hn hW hl hO hk
  refine lv_iload hx hb dL_owner_9 (lv_at hl 8 rfl) ?_
  refine lv_aload hx hb dL_owner_11 (lv_at hl 4 rfl) ?_
  refine lv_iconst (v := nI (2)) hx hb dL_owner_13 (by decide +kernel) ?_
  refine lv_iload hx hb dL_owner_14 (lv_at hl 5 rfl) ?_
  refine lv_iadd hx hb dL_owner_16 ?_
  rw [nI_add]
  refine x_ild hx hb hW 45 0 (LA_45 hA) (2 + t) rfl (by omega) (by omega) (v := nI (σ 11 t)) (congrArg nI (mv_2 σ (t := t) (by omega))) dL_owner_17 ?_
  have b_17 := hB 11 t
  refine lv_icmp_ge (tgt := 234) hx hb dL_owner_18 (by decide) (fun c_18 => ?_) (fun c_18 => ?_)
  · -- ge taken
    have c_18 := Int32.le_iff_toInt_le.mp c_18
    rw [nI_toInt (n := k) (by omega)] at c_18
    rw [nI_toInt (n := σ 11 t) (by omega)] at c_18
    have hkc : k = σ 11 t := by omega
    by_cases hk0 : k = 0
    ·
      obtain ⟨rfl, rfl⟩ := OwI_n hO hk0
      have hl : lv_has ls 15 [(0, .ref (xa 40 0)), (1, .ref (xa 41 0)), (2, .ref (xa 42 0)), (3, .ref (xa 44 0)), (4, .ref (xa 45 0)), (5, .int (nI (t))), (6, .int (-1)), (7, .int (-1)), (8, .int (nI (k)))] := hl
      refine lv_iload hx hb dL_owner_234 (lv_at hl 6 rfl) ?_
      refine lv_if_lt (tgt := 248) hx hb dL_owner_236 (by decide) (fun c_236 => ?_) (fun c_236 => ?_)
      · -- lt taken
        refine lv_iload hx hb dL_owner_248 (lv_at hl 6 rfl) ?_
        refine lv_goto (tgt := 260) hx hb dL_owner_250 (by decide) ?_
        exact xe_i hx hb hr rfl hlocks hW ⟨rfl, none, rfl, Or.inl ⟨by omega, rfl⟩⟩ (Nat.le_of_ble_eq_true rfl) (Nat.le_of_ble_eq_true rfl) dL_owner_260
      · -- lt not
        exact absurd (by decide) c_236
    ·
      obtain ⟨T, rfl, rfl, hT⟩ := OwI_T hO (by omega)
      rw [hkc] at hT
      have hTl := ttl_lt hg (i := t) (by omega) (q := σ 11 t - 1) (by omega) hT
      have hl : lv_has ls 15 [(0, .ref (xa 40 0)), (1, .ref (xa 41 0)), (2, .ref (xa 42 0)), (3, .ref (xa 44 0)), (4, .ref (xa 45 0)), (5, .int (nI (t))), (6, .int (nI (T))), (7, .int (nI (σ 13 (8 * t + ordr σ t (k - 1))))), (8, .int (nI (k)))] := hl
      refine lv_iload hx hb dL_owner_234 (lv_at hl 6 rfl) ?_
      refine lv_if_lt (tgt := 248) hx hb dL_owner_236 (by decide) (fun c_236 => ?_) (fun c_236 => ?_)
      · -- lt taken
        have c_236 := Int32.lt_iff_toInt_lt.mp c_236
        rw [nI_toInt (n := T) (by omega)] at c_236
        rw [x_t0] at c_236
        exact absurd c_236 (by omega)
      · -- lt not
        have c_236 : ¬ ((nI (T)).toInt < ((0 : Int32)).toInt) := fun h => c_236 (Int32.lt_iff_toInt_lt.mpr h)
        rw [nI_toInt (n := T) (by omega)] at c_236
        rw [x_t0] at c_236
        refine lv_aload_n hx hb dL_owner_239 rfl (lv_at hl 0 rfl) ?_
        refine lv_iload hx hb dL_owner_240 (lv_at hl 6 rfl) ?_
        refine x_ild hx hb hW 40 0 (LA_40 hA) (T) rfl (by omega) (by omega) (v := nI (σ 1 T + 8 * σ 2 T)) rfl dL_owner_242 ?_
        have b_242 := LI.pb hI (i := T) (by omega)
        refine lv_bipush (v := nI (8)) hx hb dL_owner_243 (by decide +kernel) ?_
        refine lv_icmp_ge (tgt := 253) hx hb dL_owner_245 (by decide) (fun c_245 => ?_) (fun c_245 => ?_)
        · -- ge taken
          have c_245 := Int32.le_iff_toInt_le.mp c_245
          rw [nI_toInt (n := σ 1 T + 8 * σ 2 T) (by omega)] at c_245
          rw [nI_toInt (n := 8) (by omega)] at c_245
          refine lv_aload_n hx hb dL_owner_253 rfl (lv_at hl 0 rfl) ?_
          refine lv_aload_n hx hb dL_owner_254 rfl (lv_at hl 1 rfl) ?_
          refine lv_iload hx hb dL_owner_255 (lv_at hl 6 rfl) ?_
          refine xs_i (As := [.ref (xa 40 0), .ref (xa 41 0), .int (nI (T))]) (rest := []) ⟨hx, hb, hml, hown, hts⟩ (c_L_heirOf l D sa xa G σ hI hA T (by omega)) (va_cwS 3 hts gL_owner_L_heirOf rfl rfl rfl (by decide +kernel) ⟨Nat.le_of_ble_eq_true rfl, Nat.le_of_ble_eq_true rfl⟩) hW rfl rfl hl.1 (Nat.le_of_ble_eq_true rfl) dL_owner_257 ⟨Nat.le_of_ble_eq_true rfl, Nat.le_of_ble_eq_true rfl⟩ (fun r_257 xa1 G1 H locs hp hW => ?_)
          obtain ⟨hu, hr_257⟩ := hp
          cases hu
          exact xe_i hx hb hr rfl hlocks hW ⟨rfl, lif σ T, by unfold lif; rw [if_neg (by omega)]; exact hr_257, Or.inr ⟨by omega, T, hT, rfl⟩⟩ (Nat.le_of_ble_eq_true rfl) (Nat.le_of_ble_eq_true rfl) dL_owner_260
        · -- ge not
          have c_245 : ¬ ((nI (8)).toInt ≤ (nI (σ 1 T + 8 * σ 2 T)).toInt) := fun h => c_245 (Int32.le_iff_toInt_le.mpr h)
          rw [nI_toInt (n := σ 1 T + 8 * σ 2 T) (by omega)] at c_245
          rw [nI_toInt (n := 8) (by omega)] at c_245
          refine lv_iload hx hb dL_owner_248 (lv_at hl 6 rfl) ?_
          refine lv_goto (tgt := 260) hx hb dL_owner_250 (by decide) ?_
          exact xe_i hx hb hr rfl hlocks hW ⟨rfl, lif σ T, by unfold lif; rw [if_pos (by omega)]; rfl, Or.inr ⟨by omega, T, hT, rfl⟩⟩ (Nat.le_of_ble_eq_true rfl) (Nat.le_of_ble_eq_true rfl) dL_owner_260
  · -- ge not
    have c_18 : ¬ ((nI (σ 11 t)).toInt ≤ (nI (k)).toInt) := fun h => c_18 (Int32.le_iff_toInt_le.mpr h)
    rw [nI_toInt (n := k) (by omega)] at c_18
    rw [nI_toInt (n := σ 11 t) (by omega)] at c_18
    refine lv_aload_n hx hb dL_owner_21 rfl (lv_at hl 3 rfl) ?_
    refine lv_bipush (v := nI (8)) hx hb dL_owner_22 (by decide +kernel) ?_
    refine lv_iload hx hb dL_owner_24 (lv_at hl 5 rfl) ?_
    refine lv_imul hx hb dL_owner_26 ?_
    rw [pk_mul]
    refine lv_aload_n hx hb dL_owner_27 rfl (lv_at hl 3 rfl) ?_
    refine lv_aload hx hb dL_owner_28 (lv_at hl 4 rfl) ?_
    refine lv_iload hx hb dL_owner_30 (lv_at hl 5 rfl) ?_
    refine lv_iload hx hb dL_owner_32 (lv_at hl 8 rfl) ?_
    refine xs_i (As := [.ref (xa 44 0), .ref (xa 45 0), .int (nI (t)), .int (nI (k))]) (rest := [.int (nI (8 * t)), .ref (xa 44 0)]) ⟨hx, hb, hml, hown, hts⟩ (c_L_at l D sa xa G σ hI hA t k (by omega) (by omega)) (va_cwS 4 hts gL_owner_L_at rfl rfl rfl (by decide +kernel) ⟨Nat.le_of_ble_eq_true rfl, Nat.le_of_ble_eq_true rfl⟩) hW rfl rfl hl.1 (Nat.le_of_ble_eq_true rfl) dL_owner_34 ⟨Nat.le_of_ble_eq_true rfl, Nat.le_of_ble_eq_true rfl⟩ (fun r_34 xa1 G1 H locs hp hW => ?_)
    obtain ⟨hu, hr_34⟩ := hp
    cases hu
    subst hr_34
    have bo_34 := ordr_lt (σ := σ) (i := t) (q := k) (by omega)
    refine lv_iadd hx hb dL_owner_37 ?_
    rw [nI_add]
    refine x_ild hx hb hW 44 0 (LA_44 hA) (8 * t + ordr σ t k) rfl (by omega) (by omega) (v := nI (cpv σ (8 * t + ordr σ t k))) rfl dL_owner_38 ?_
    have b_38 := LI.cp hI (t := t) (k := ordr σ t k) (by omega) (by omega)
    refine lv_istore (lv' := [(9, .int (nI (cpv σ (8 * t + ordr σ t k)))), (0, .ref (xa 40 0)), (1, .ref (xa 41 0)), (2, .ref (xa 42 0)), (3, .ref (xa 44 0)), (4, .ref (xa 45 0)), (5, .int (nI (t))), (6, .int (oi r)), (7, .int (oi ra)), (8, .int (nI (k)))]) hx hb dL_owner_39 hl (by decide) rfl (fun ls hl => ?_)
    have hl : lv_has ls 15 [(0, .ref (xa 40 0)), (1, .ref (xa 41 0)), (2, .ref (xa 42 0)), (3, .ref (xa 44 0)), (4, .ref (xa 45 0)), (5, .int (nI (t))), (6, .int (oi r)), (7, .int (oi ra)), (8, .int (nI (k))), (9, .int (nI (cpv σ (8 * t + ordr σ t k))))] := lv_sub hl [1, 2, 3, 4, 5, 6, 7, 8, 9, 0] rfl
    refine lv_iload hx hb dL_owner_41 (lv_at hl 9 rfl) ?_
    refine lv_bipush (v := nI (15)) hx hb dL_owner_43 (by decide +kernel) ?_
    refine lv_iand hx hb dL_owner_45 ?_
    rw [cp_p b_38]
    have bb_45 := b_38
    unfold cpo at bb_45
    refine lv_istore (lv' := [(10, .int (nI (σ 13 (8 * t + ordr σ t k)))), (0, .ref (xa 40 0)), (1, .ref (xa 41 0)), (2, .ref (xa 42 0)), (3, .ref (xa 44 0)), (4, .ref (xa 45 0)), (5, .int (nI (t))), (6, .int (oi r)), (7, .int (oi ra)), (8, .int (nI (k))), (9, .int (nI (cpv σ (8 * t + ordr σ t k))))]) hx hb dL_owner_46 hl (by decide) rfl (fun ls hl => ?_)
    have hl : lv_has ls 15 [(0, .ref (xa 40 0)), (1, .ref (xa 41 0)), (2, .ref (xa 42 0)), (3, .ref (xa 44 0)), (4, .ref (xa 45 0)), (5, .int (nI (t))), (6, .int (oi r)), (7, .int (oi ra)), (8, .int (nI (k))), (9, .int (nI (cpv σ (8 * t + ordr σ t k)))), (10, .int (nI (σ 13 (8 * t + ordr σ t k))))] := lv_sub hl [1, 2, 3, 4, 5, 6, 7, 8, 9, 10, 0] rfl
    refine lv_iload hx hb dL_owner_48 (lv_at hl 9 rfl) ?_
    refine lv_bipush (v := nI (12)) hx hb dL_owner_50 (by decide +kernel) ?_
    refine lv_ishr hx hb dL_owner_52 ?_
    rw [bt_shr (m := cpv σ (8 * t + ordr σ t k)) (b := 12) (cp_lt b_38) (by omega)]
    refine lv_sipush (v := nI (255)) hx hb dL_owner_53 (by decide +kernel) ?_
    refine lv_iand hx hb dL_owner_56 ?_
    rw [cp_y b_38]
    have bb_56 := b_38
    unfold cpo at bb_56
    refine lv_istore (lv' := [(11, .int (nI (σ 16 (8 * t + ordr σ t k) - 1900))), (0, .ref (xa 40 0)), (1, .ref (xa 41 0)), (2, .ref (xa 42 0)), (3, .ref (xa 44 0)), (4, .ref (xa 45 0)), (5, .int (nI (t))), (6, .int (oi r)), (7, .int (oi ra)), (8, .int (nI (k))), (9, .int (nI (cpv σ (8 * t + ordr σ t k)))), (10, .int (nI (σ 13 (8 * t + ordr σ t k))))]) hx hb dL_owner_57 hl (by decide) rfl (fun ls hl => ?_)
    have hl : lv_has ls 15 [(0, .ref (xa 40 0)), (1, .ref (xa 41 0)), (2, .ref (xa 42 0)), (3, .ref (xa 44 0)), (4, .ref (xa 45 0)), (5, .int (nI (t))), (6, .int (oi r)), (7, .int (oi ra)), (8, .int (nI (k))), (9, .int (nI (cpv σ (8 * t + ordr σ t k)))), (10, .int (nI (σ 13 (8 * t + ordr σ t k)))), (11, .int (nI (σ 16 (8 * t + ordr σ t k) - 1900)))] := lv_sub hl [1, 2, 3, 4, 5, 6, 7, 8, 9, 10, 11, 0] rfl
    refine x_joinN (ls := ls) (D := D) (sa := sa) (A := A) (xa := xa) (G := G) (P := fun v_ => v_ + 1900 = untO σ t (ordr σ t) (σ 11 t) k ∧ v_ ≤ 200) (mpc := 111) (rest := []) (fun H locs v_111 hW h_111 => ?_) (fun J111 => ?_)
    · try dsimp only at h_111
      refine lv_istore (lv' := [(12, .int (nI (v_111))), (0, .ref (xa 40 0)), (1, .ref (xa 41 0)), (2, .ref (xa 42 0)), (3, .ref (xa 44 0)), (4, .ref (xa 45 0)), (5, .int (nI (t))), (6, .int (oi r)), (7, .int (oi ra)), (8, .int (nI (k))), (9, .int (nI (cpv σ (8 * t + ordr σ t k)))), (10, .int (nI (σ 13 (8 * t + ordr σ t k)))), (11, .int (nI (σ 16 (8 * t + ordr σ t k) - 1900)))]) hx hb dL_owner_111 hl (by decide) rfl (fun ls hl => ?_)
      have hl : lv_has ls 15 [(0, .ref (xa 40 0)), (1, .ref (xa 41 0)), (2, .ref (xa 42 0)), (3, .ref (xa 44 0)), (4, .ref (xa 45 0)), (5, .int (nI (t))), (6, .int (oi r)), (7, .int (oi ra)), (8, .int (nI (k))), (9, .int (nI (cpv σ (8 * t + ordr σ t k)))), (10, .int (nI (σ 13 (8 * t + ordr σ t k)))), (11, .int (nI (σ 16 (8 * t + ordr σ t k) - 1900))), (12, .int (nI (v_111)))] := lv_sub hl [1, 2, 3, 4, 5, 6, 7, 8, 9, 10, 11, 12, 0] rfl
      refine lv_aload hx hb dL_owner_113 (lv_at hl 4 rfl) ?_
      refine lv_iconst (v := nI (5)) hx hb dL_owner_115 (by decide +kernel) ?_
      refine lv_iload hx hb dL_owner_116 (lv_at hl 9 rfl) ?_
      refine lv_bipush (v := nI (8)) hx hb dL_owner_118 (by decide +kernel) ?_
      refine lv_ishr hx hb dL_owner_120 ?_
      rw [bt_shr (m := cpv σ (8 * t + ordr σ t k)) (b := 8) (cp_lt b_38) (by omega)]
      refine lv_bipush (v := nI (15)) hx hb dL_owner_121 (by decide +kernel) ?_
      refine lv_iand hx hb dL_owner_123 ?_
      rw [cp_a b_38]
      have bb_123 := b_38
      unfold cpo at bb_123
      refine lv_iadd hx hb dL_owner_124 ?_
      rw [nI_add]
      refine x_ild hx hb hW 45 0 (LA_45 hA) (5 + σ 15 (8 * t + ordr σ t k)) rfl (by omega) (by omega) (v := nI (σ 8 (σ 15 (8 * t + ordr σ t k)))) (congrArg nI (mv_5 σ (σ 15 (8 * t + ordr σ t k)))) dL_owner_125 ?_
      have b_125 := hB 8 (σ 15 (8 * t + ordr σ t k))
      refine lv_istore (lv' := [(13, .int (nI (σ 8 (σ 15 (8 * t + ordr σ t k))))), (0, .ref (xa 40 0)), (1, .ref (xa 41 0)), (2, .ref (xa 42 0)), (3, .ref (xa 44 0)), (4, .ref (xa 45 0)), (5, .int (nI (t))), (6, .int (oi r)), (7, .int (oi ra)), (8, .int (nI (k))), (9, .int (nI (cpv σ (8 * t + ordr σ t k)))), (10, .int (nI (σ 13 (8 * t + ordr σ t k)))), (11, .int (nI (σ 16 (8 * t + ordr σ t k) - 1900))), (12, .int (nI (v_111)))]) hx hb dL_owner_126 hl (by decide) rfl (fun ls hl => ?_)
      have hl : lv_has ls 15 [(0, .ref (xa 40 0)), (1, .ref (xa 41 0)), (2, .ref (xa 42 0)), (3, .ref (xa 44 0)), (4, .ref (xa 45 0)), (5, .int (nI (t))), (6, .int (oi r)), (7, .int (oi ra)), (8, .int (nI (k))), (9, .int (nI (cpv σ (8 * t + ordr σ t k)))), (10, .int (nI (σ 13 (8 * t + ordr σ t k)))), (11, .int (nI (σ 16 (8 * t + ordr σ t k) - 1900))), (12, .int (nI (v_111))), (13, .int (nI (σ 8 (σ 15 (8 * t + ordr σ t k)))))] := lv_sub hl [1, 2, 3, 4, 5, 6, 7, 8, 9, 10, 11, 12, 13, 0] rfl
      refine lv_iload hx hb dL_owner_128 (lv_at hl 8 rfl) ?_
      refine lv_if_eq (tgt := 144) hx hb dL_owner_130 (by decide) (fun c_130 => ?_) (fun c_130 => ?_)
      · -- eq taken
        have c_130 := (x_eqZ (a := k) (by omega)).mp c_130
        refine lv_iconst (v := nI (1)) hx hb dL_owner_144 (by decide +kernel) ?_
        refine lv_goto (tgt := 149) hx hb dL_owner_145 (by decide) ?_
        refine lv_istore (lv' := [(14, .int (nI (1))), (0, .ref (xa 40 0)), (1, .ref (xa 41 0)), (2, .ref (xa 42 0)), (3, .ref (xa 44 0)), (4, .ref (xa 45 0)), (5, .int (nI (t))), (6, .int (oi r)), (7, .int (oi ra)), (8, .int (nI (k))), (9, .int (nI (cpv σ (8 * t + ordr σ t k)))), (10, .int (nI (σ 13 (8 * t + ordr σ t k)))), (11, .int (nI (σ 16 (8 * t + ordr σ t k) - 1900))), (12, .int (nI (v_111))), (13, .int (nI (σ 8 (σ 15 (8 * t + ordr σ t k)))))]) hx hb dL_owner_149 hl (by decide) rfl (fun ls hl => ?_)
        have hl : lv_has ls 15 [(0, .ref (xa 40 0)), (1, .ref (xa 41 0)), (2, .ref (xa 42 0)), (3, .ref (xa 44 0)), (4, .ref (xa 45 0)), (5, .int (nI (t))), (6, .int (oi r)), (7, .int (oi ra)), (8, .int (nI (k))), (9, .int (nI (cpv σ (8 * t + ordr σ t k)))), (10, .int (nI (σ 13 (8 * t + ordr σ t k)))), (11, .int (nI (σ 16 (8 * t + ordr σ t k) - 1900))), (12, .int (nI (v_111))), (13, .int (nI (σ 8 (σ 15 (8 * t + ordr σ t k))))), (14, .int (nI (1)))] := lv_sub hl [1, 2, 3, 4, 5, 6, 7, 8, 9, 10, 11, 12, 13, 14, 0] rfl
        refine lv_iload hx hb dL_owner_151 (lv_at hl 14 rfl) ?_
        refine lv_if_ne (tgt := 210) hx hb dL_owner_153 (by decide) (fun c_153 => ?_) (fun c_153 => ?_)
        · -- ne taken
          refine lv_iload hx hb dL_owner_210 (lv_at hl 14 rfl) ?_
          refine lv_if_eq (tgt := 220) hx hb dL_owner_212 (by decide) (fun c_212 => ?_) (fun c_212 => ?_)
          · -- eq taken
            exact absurd c_212 (by decide)
          · -- eq not
            refine lv_iload hx hb dL_owner_215 (lv_at hl 10 rfl) ?_
            refine lv_goto (tgt := 222) hx hb dL_owner_217 (by decide) ?_
            refine lv_istore (lv' := [(6, .int (nI (σ 13 (8 * t + ordr σ t k)))), (0, .ref (xa 40 0)), (1, .ref (xa 41 0)), (2, .ref (xa 42 0)), (3, .ref (xa 44 0)), (4, .ref (xa 45 0)), (5, .int (nI (t))), (7, .int (oi ra)), (8, .int (nI (k))), (9, .int (nI (cpv σ (8 * t + ordr σ t k)))), (10, .int (nI (σ 13 (8 * t + ordr σ t k)))), (11, .int (nI (σ 16 (8 * t + ordr σ t k) - 1900))), (12, .int (nI (v_111))), (13, .int (nI (σ 8 (σ 15 (8 * t + ordr σ t k))))), (14, .int (nI (1)))]) hx hb dL_owner_222 hl (by decide) rfl (fun ls hl => ?_)
            have hl : lv_has ls 15 [(0, .ref (xa 40 0)), (1, .ref (xa 41 0)), (2, .ref (xa 42 0)), (3, .ref (xa 44 0)), (4, .ref (xa 45 0)), (5, .int (nI (t))), (6, .int (nI (σ 13 (8 * t + ordr σ t k)))), (7, .int (oi ra)), (8, .int (nI (k))), (9, .int (nI (cpv σ (8 * t + ordr σ t k)))), (10, .int (nI (σ 13 (8 * t + ordr σ t k)))), (11, .int (nI (σ 16 (8 * t + ordr σ t k) - 1900))), (12, .int (nI (v_111))), (13, .int (nI (σ 8 (σ 15 (8 * t + ordr σ t k))))), (14, .int (nI (1)))] := lv_sub hl [1, 2, 3, 4, 5, 6, 0, 7, 8, 9, 10, 11, 12, 13, 14] rfl
            refine lv_iload hx hb dL_owner_224 (lv_at hl 10 rfl) ?_
            refine lv_istore (lv' := [(7, .int (nI (σ 13 (8 * t + ordr σ t k)))), (0, .ref (xa 40 0)), (1, .ref (xa 41 0)), (2, .ref (xa 42 0)), (3, .ref (xa 44 0)), (4, .ref (xa 45 0)), (5, .int (nI (t))), (6, .int (nI (σ 13 (8 * t + ordr σ t k)))), (8, .int (nI (k))), (9, .int (nI (cpv σ (8 * t + ordr σ t k)))), (10, .int (nI (σ 13 (8 * t + ordr σ t k)))), (11, .int (nI (σ 16 (8 * t + ordr σ t k) - 1900))), (12, .int (nI (v_111))), (13, .int (nI (σ 8 (σ 15 (8 * t + ordr σ t k))))), (14, .int (nI (1)))]) hx hb dL_owner_226 hl (by decide) rfl (fun ls hl => ?_)
            have hl : lv_has ls 15 [(0, .ref (xa 40 0)), (1, .ref (xa 41 0)), (2, .ref (xa 42 0)), (3, .ref (xa 44 0)), (4, .ref (xa 45 0)), (5, .int (nI (t))), (6, .int (nI (σ 13 (8 * t + ordr σ t k)))), (7, .int (nI (σ 13 (8 * t + ordr σ t k)))), (8, .int (nI (k))), (9, .int (nI (cpv σ (8 * t + ordr σ t k)))), (10, .int (nI (σ 13 (8 * t + ordr σ t k)))), (11, .int (nI (σ 16 (8 * t + ordr σ t k) - 1900))), (12, .int (nI (v_111))), (13, .int (nI (σ 8 (σ 15 (8 * t + ordr σ t k))))), (14, .int (nI (1)))] := lv_sub hl [1, 2, 3, 4, 5, 6, 7, 0, 8, 9, 10, 11, 12, 13, 14] rfl
            refine lv_iinc (v := nI (k + 1)) (lv' := [(8, .int (nI (k + 1))), (0, .ref (xa 40 0)), (1, .ref (xa 41 0)), (2, .ref (xa 42 0)), (3, .ref (xa 44 0)), (4, .ref (xa 45 0)), (5, .int (nI (t))), (6, .int (nI (σ 13 (8 * t + ordr σ t k)))), (7, .int (nI (σ 13 (8 * t + ordr σ t k)))), (9, .int (nI (cpv σ (8 * t + ordr σ t k)))), (10, .int (nI (σ 13 (8 * t + ordr σ t k)))), (11, .int (nI (σ 16 (8 * t + ordr σ t k) - 1900))), (12, .int (nI (v_111))), (13, .int (nI (σ 8 (σ 15 (8 * t + ordr σ t k))))), (14, .int (nI (1)))]) hx hb dL_owner_228 hl (k := 8) rfl (x_inc k 1 rfl) (by decide) rfl (fun ls hl => ?_)
            have hl : lv_has ls 15 [(0, .ref (xa 40 0)), (1, .ref (xa 41 0)), (2, .ref (xa 42 0)), (3, .ref (xa 44 0)), (4, .ref (xa 45 0)), (5, .int (nI (t))), (6, .int (nI (σ 13 (8 * t + ordr σ t k)))), (7, .int (nI (σ 13 (8 * t + ordr σ t k)))), (8, .int (nI (k + 1))), (9, .int (nI (cpv σ (8 * t + ordr σ t k)))), (10, .int (nI (σ 13 (8 * t + ordr σ t k)))), (11, .int (nI (σ 16 (8 * t + ordr σ t k) - 1900))), (12, .int (nI (v_111))), (13, .int (nI (σ 8 (σ 15 (8 * t + ordr σ t k))))), (14, .int (nI (1)))] := lv_sub hl [1, 2, 3, 4, 5, 6, 7, 8, 0, 9, 10, 11, 12, 13, 14] rfl
            refine lv_goto (tgt := 9) hx hb dL_owner_231 (by decide) ?_
            exact ih9 (σ 11 t - (k + 1)) (some (σ 13 (8 * t + ordr σ t k)), some (σ 13 (8 * t + ordr σ t k)), k + 1) _ _ _ (by omega) ⟨rfl, hW, lv_sub hl [0, 1, 2, 3, 4, 5, 6, 7, 8] rfl, OwI_f c_130, by (try dsimp only); omega⟩
        · -- ne not
          exact absurd c_153 (by decide)
      · -- eq not
        have c_130 : ¬ (k = 0) := fun h_ => c_130 ((x_eqZ (a := k) (by omega)).mpr h_)
        have hk0 : 0 < k := by omega
        obtain ⟨T, rfl, rfl, hT⟩ := OwI_T hO hk0
        have hTl := ttl_lt hg (i := t) (by omega) (q := k - 1) (by omega) hT
        have hpl := (hI.cp ht (k := ordr σ t (k - 1)) (ordr_lt (by omega))).1
        have hl : lv_has ls 15 [(0, .ref (xa 40 0)), (1, .ref (xa 41 0)), (2, .ref (xa 42 0)), (3, .ref (xa 44 0)), (4, .ref (xa 45 0)), (5, .int (nI (t))), (6, .int (nI (T))), (7, .int (nI (σ 13 (8 * t + ordr σ t (k - 1))))), (8, .int (nI (k))), (9, .int (nI (cpv σ (8 * t + ordr σ t k)))), (10, .int (nI (σ 13 (8 * t + ordr σ t k)))), (11, .int (nI (σ 16 (8 * t + ordr σ t k) - 1900))), (12, .int (nI (v_111))), (13, .int (nI (σ 8 (σ 15 (8 * t + ordr σ t k)))))] := hl
        refine lv_iload hx hb dL_owner_133 (lv_at hl 9 rfl) ?_
        refine lv_bipush (v := nI (25)) hx hb dL_owner_135 (by decide +kernel) ?_
        refine lv_ishr hx hb dL_owner_137 ?_
        rw [bt_shr (m := cpv σ (8 * t + ordr σ t k)) (b := 25) (cp_lt b_38) (by omega)]
        refine lv_iconst (v := nI (1)) hx hb dL_owner_138 (by decide +kernel) ?_
        refine lv_iand hx hb dL_owner_139 ?_
        rw [cp_s b_38]
        have bb_139 := b_38
        unfold cpo at bb_139
        refine lv_iconst (v := nI (1)) hx hb dL_owner_140 (by decide +kernel) ?_
        refine lv_icmp_ne (tgt := 148) hx hb dL_owner_141 (by decide) (fun c_141 => ?_) (fun c_141 => ?_)
        · -- ne taken
          have c_141 : ¬ (σ 18 (8 * t + ordr σ t k) = 1) := fun h_ => c_141 ((x_eqN (a := σ 18 (8 * t + ordr σ t k)) (b := 1) (by omega) (by omega)).mpr h_)
          refine lv_iconst (v := nI (0)) hx hb dL_owner_148 (by decide +kernel) ?_
          refine lv_istore (lv' := [(14, .int (nI (0))), (0, .ref (xa 40 0)), (1, .ref (xa 41 0)), (2, .ref (xa 42 0)), (3, .ref (xa 44 0)), (4, .ref (xa 45 0)), (5, .int (nI (t))), (6, .int (nI (T))), (7, .int (nI (σ 13 (8 * t + ordr σ t (k - 1))))), (8, .int (nI (k))), (9, .int (nI (cpv σ (8 * t + ordr σ t k)))), (10, .int (nI (σ 13 (8 * t + ordr σ t k)))), (11, .int (nI (σ 16 (8 * t + ordr σ t k) - 1900))), (12, .int (nI (v_111))), (13, .int (nI (σ 8 (σ 15 (8 * t + ordr σ t k)))))]) hx hb dL_owner_149 hl (by decide) rfl (fun ls hl => ?_)
          have hl : lv_has ls 15 [(0, .ref (xa 40 0)), (1, .ref (xa 41 0)), (2, .ref (xa 42 0)), (3, .ref (xa 44 0)), (4, .ref (xa 45 0)), (5, .int (nI (t))), (6, .int (nI (T))), (7, .int (nI (σ 13 (8 * t + ordr σ t (k - 1))))), (8, .int (nI (k))), (9, .int (nI (cpv σ (8 * t + ordr σ t k)))), (10, .int (nI (σ 13 (8 * t + ordr σ t k)))), (11, .int (nI (σ 16 (8 * t + ordr σ t k) - 1900))), (12, .int (nI (v_111))), (13, .int (nI (σ 8 (σ 15 (8 * t + ordr σ t k))))), (14, .int (nI (0)))] := lv_sub hl [1, 2, 3, 4, 5, 6, 7, 8, 9, 10, 11, 12, 13, 14, 0] rfl
          refine lv_iload hx hb dL_owner_151 (lv_at hl 14 rfl) ?_
          refine lv_if_ne (tgt := 210) hx hb dL_owner_153 (by decide) (fun c_153 => ?_) (fun c_153 => ?_)
          · -- ne taken
            exact absurd (by decide) c_153
          · -- ne not
            refine lv_aload_n hx hb dL_owner_156 rfl (lv_at hl 0 rfl) ?_
            refine lv_aload_n hx hb dL_owner_157 rfl (lv_at hl 2 rfl) ?_
            refine lv_aload_n hx hb dL_owner_158 rfl (lv_at hl 3 rfl) ?_
            refine lv_aload hx hb dL_owner_159 (lv_at hl 4 rfl) ?_
            refine lv_iload hx hb dL_owner_161 (lv_at hl 5 rfl) ?_
            refine lv_iload hx hb dL_owner_163 (lv_at hl 8 rfl) ?_
            refine xs_i (As := [.ref (xa 40 0), .ref (xa 42 0), .ref (xa 44 0), .ref (xa 45 0), .int (nI (t)), .int (nI (k))]) (rest := []) ⟨hx, hb, hml, hown, hts⟩ (c_L_isLoss l D sa xa G σ hI hA t k (by omega) (by omega)) (va_cwS 6 hts gL_owner_L_isLoss rfl rfl rfl (by decide +kernel) ⟨Nat.le_of_ble_eq_true rfl, Nat.le_of_ble_eq_true rfl⟩) hW rfl rfl hl.1 (Nat.le_of_ble_eq_true rfl) dL_owner_165 ⟨Nat.le_of_ble_eq_true rfl, Nat.le_of_ble_eq_true rfl⟩ (fun r_165 xa1 G1 H locs hp hW => ?_)
            obtain ⟨hu, hr_165⟩ := hp
            cases hu
            refine lv_if_ne (tgt := 210) hx hb dL_owner_168 (by decide) (fun c_168 => ?_) (fun c_168 => ?_)
            · -- ne taken
              have c_168 := hr_165.t c_168
              refine lv_iload hx hb dL_owner_210 (lv_at hl 14 rfl) ?_
              refine lv_if_eq (tgt := 220) hx hb dL_owner_212 (by decide) (fun c_212 => ?_) (fun c_212 => ?_)
              · -- eq taken
                refine lv_iload hx hb dL_owner_220 (lv_at hl 6 rfl) ?_
                refine lv_istore (lv' := [(6, .int (nI (T))), (0, .ref (xa 40 0)), (1, .ref (xa 41 0)), (2, .ref (xa 42 0)), (3, .ref (xa 44 0)), (4, .ref (xa 45 0)), (5, .int (nI (t))), (7, .int (nI (σ 13 (8 * t + ordr σ t (k - 1))))), (8, .int (nI (k))), (9, .int (nI (cpv σ (8 * t + ordr σ t k)))), (10, .int (nI (σ 13 (8 * t + ordr σ t k)))), (11, .int (nI (σ 16 (8 * t + ordr σ t k) - 1900))), (12, .int (nI (v_111))), (13, .int (nI (σ 8 (σ 15 (8 * t + ordr σ t k))))), (14, .int (nI (0)))]) hx hb dL_owner_222 hl (by decide) rfl (fun ls hl => ?_)
                have hl : lv_has ls 15 [(0, .ref (xa 40 0)), (1, .ref (xa 41 0)), (2, .ref (xa 42 0)), (3, .ref (xa 44 0)), (4, .ref (xa 45 0)), (5, .int (nI (t))), (6, .int (nI (T))), (7, .int (nI (σ 13 (8 * t + ordr σ t (k - 1))))), (8, .int (nI (k))), (9, .int (nI (cpv σ (8 * t + ordr σ t k)))), (10, .int (nI (σ 13 (8 * t + ordr σ t k)))), (11, .int (nI (σ 16 (8 * t + ordr σ t k) - 1900))), (12, .int (nI (v_111))), (13, .int (nI (σ 8 (σ 15 (8 * t + ordr σ t k))))), (14, .int (nI (0)))] := lv_sub hl [1, 2, 3, 4, 5, 6, 0, 7, 8, 9, 10, 11, 12, 13, 14] rfl
                refine lv_iload hx hb dL_owner_224 (lv_at hl 10 rfl) ?_
                refine lv_istore (lv' := [(7, .int (nI (σ 13 (8 * t + ordr σ t k)))), (0, .ref (xa 40 0)), (1, .ref (xa 41 0)), (2, .ref (xa 42 0)), (3, .ref (xa 44 0)), (4, .ref (xa 45 0)), (5, .int (nI (t))), (6, .int (nI (T))), (8, .int (nI (k))), (9, .int (nI (cpv σ (8 * t + ordr σ t k)))), (10, .int (nI (σ 13 (8 * t + ordr σ t k)))), (11, .int (nI (σ 16 (8 * t + ordr σ t k) - 1900))), (12, .int (nI (v_111))), (13, .int (nI (σ 8 (σ 15 (8 * t + ordr σ t k))))), (14, .int (nI (0)))]) hx hb dL_owner_226 hl (by decide) rfl (fun ls hl => ?_)
                have hl : lv_has ls 15 [(0, .ref (xa 40 0)), (1, .ref (xa 41 0)), (2, .ref (xa 42 0)), (3, .ref (xa 44 0)), (4, .ref (xa 45 0)), (5, .int (nI (t))), (6, .int (nI (T))), (7, .int (nI (σ 13 (8 * t + ordr σ t k)))), (8, .int (nI (k))), (9, .int (nI (cpv σ (8 * t + ordr σ t k)))), (10, .int (nI (σ 13 (8 * t + ordr σ t k)))), (11, .int (nI (σ 16 (8 * t + ordr σ t k) - 1900))), (12, .int (nI (v_111))), (13, .int (nI (σ 8 (σ 15 (8 * t + ordr σ t k))))), (14, .int (nI (0)))] := lv_sub hl [1, 2, 3, 4, 5, 6, 7, 0, 8, 9, 10, 11, 12, 13, 14] rfl
                refine lv_iinc (v := nI (k + 1)) (lv' := [(8, .int (nI (k + 1))), (0, .ref (xa 40 0)), (1, .ref (xa 41 0)), (2, .ref (xa 42 0)), (3, .ref (xa 44 0)), (4, .ref (xa 45 0)), (5, .int (nI (t))), (6, .int (nI (T))), (7, .int (nI (σ 13 (8 * t + ordr σ t k)))), (9, .int (nI (cpv σ (8 * t + ordr σ t k)))), (10, .int (nI (σ 13 (8 * t + ordr σ t k)))), (11, .int (nI (σ 16 (8 * t + ordr σ t k) - 1900))), (12, .int (nI (v_111))), (13, .int (nI (σ 8 (σ 15 (8 * t + ordr σ t k))))), (14, .int (nI (0)))]) hx hb dL_owner_228 hl (k := 8) rfl (x_inc k 1 rfl) (by decide) rfl (fun ls hl => ?_)
                have hl : lv_has ls 15 [(0, .ref (xa 40 0)), (1, .ref (xa 41 0)), (2, .ref (xa 42 0)), (3, .ref (xa 44 0)), (4, .ref (xa 45 0)), (5, .int (nI (t))), (6, .int (nI (T))), (7, .int (nI (σ 13 (8 * t + ordr σ t k)))), (8, .int (nI (k + 1))), (9, .int (nI (cpv σ (8 * t + ordr σ t k)))), (10, .int (nI (σ 13 (8 * t + ordr σ t k)))), (11, .int (nI (σ 16 (8 * t + ordr σ t k) - 1900))), (12, .int (nI (v_111))), (13, .int (nI (σ 8 (σ 15 (8 * t + ordr σ t k))))), (14, .int (nI (0)))] := lv_sub hl [1, 2, 3, 4, 5, 6, 7, 8, 0, 9, 10, 11, 12, 13, 14] rfl
                refine lv_goto (tgt := 9) hx hb dL_owner_231 (by decide) ?_
                exact ih9 (σ 11 t - (k + 1)) (some (T), some (σ 13 (8 * t + ordr σ t k)), k + 1) _ _ _ (by omega) ⟨rfl, hW, lv_sub hl [0, 1, 2, 3, 4, 5, 6, 7, 8] rfl, OwI_s hk0 hT (fun z => by rcases z with z | ⟨z1, z | ⟨z2, z3, z4⟩⟩ <;> first | omega | exact absurd z c_175 | exact absurd c_168 z1), by (try dsimp only); omega⟩
              · -- eq not
                exact absurd (by decide) c_212
            · -- ne not
              have c_168 := hr_165.f c_168
              refine lv_iload hx hb dL_owner_171 (lv_at hl 6 rfl) ?_
              refine lv_iload hx hb dL_owner_173 (lv_at hl 7 rfl) ?_
              refine lv_icmp_eq (tgt := 203) hx hb dL_owner_175 (by decide) (fun c_175 => ?_) (fun c_175 => ?_)
              · -- eq taken
                have c_175 := (x_eqN (a := T) (b := σ 13 (8 * t + ordr σ t (k - 1))) (by omega) (by omega)).mp c_175
                refine lv_iconst (v := nI (1)) hx hb dL_owner_203 (by decide +kernel) ?_
                refine lv_goto (tgt := 208) hx hb dL_owner_204 (by decide) ?_
                refine lv_istore (lv' := [(14, .int (nI (1))), (0, .ref (xa 40 0)), (1, .ref (xa 41 0)), (2, .ref (xa 42 0)), (3, .ref (xa 44 0)), (4, .ref (xa 45 0)), (5, .int (nI (t))), (6, .int (nI (T))), (7, .int (nI (σ 13 (8 * t + ordr σ t (k - 1))))), (8, .int (nI (k))), (9, .int (nI (cpv σ (8 * t + ordr σ t k)))), (10, .int (nI (σ 13 (8 * t + ordr σ t k)))), (11, .int (nI (σ 16 (8 * t + ordr σ t k) - 1900))), (12, .int (nI (v_111))), (13, .int (nI (σ 8 (σ 15 (8 * t + ordr σ t k)))))]) hx hb dL_owner_208 hl (by decide) rfl (fun ls hl => ?_)
                have hl : lv_has ls 15 [(0, .ref (xa 40 0)), (1, .ref (xa 41 0)), (2, .ref (xa 42 0)), (3, .ref (xa 44 0)), (4, .ref (xa 45 0)), (5, .int (nI (t))), (6, .int (nI (T))), (7, .int (nI (σ 13 (8 * t + ordr σ t (k - 1))))), (8, .int (nI (k))), (9, .int (nI (cpv σ (8 * t + ordr σ t k)))), (10, .int (nI (σ 13 (8 * t + ordr σ t k)))), (11, .int (nI (σ 16 (8 * t + ordr σ t k) - 1900))), (12, .int (nI (v_111))), (13, .int (nI (σ 8 (σ 15 (8 * t + ordr σ t k))))), (14, .int (nI (1)))] := lv_sub hl [1, 2, 3, 4, 5, 6, 7, 8, 9, 10, 11, 12, 13, 14, 0] rfl
                refine lv_iload hx hb dL_owner_210 (lv_at hl 14 rfl) ?_
                refine lv_if_eq (tgt := 220) hx hb dL_owner_212 (by decide) (fun c_212 => ?_) (fun c_212 => ?_)
                · -- eq taken
                  exact absurd c_212 (by decide)
                · -- eq not
                  refine lv_iload hx hb dL_owner_215 (lv_at hl 10 rfl) ?_
                  refine lv_goto (tgt := 222) hx hb dL_owner_217 (by decide) ?_
                  refine lv_istore (lv' := [(6, .int (nI (σ 13 (8 * t + ordr σ t k)))), (0, .ref (xa 40 0)), (1, .ref (xa 41 0)), (2, .ref (xa 42 0)), (3, .ref (xa 44 0)), (4, .ref (xa 45 0)), (5, .int (nI (t))), (7, .int (nI (σ 13 (8 * t + ordr σ t (k - 1))))), (8, .int (nI (k))), (9, .int (nI (cpv σ (8 * t + ordr σ t k)))), (10, .int (nI (σ 13 (8 * t + ordr σ t k)))), (11, .int (nI (σ 16 (8 * t + ordr σ t k) - 1900))), (12, .int (nI (v_111))), (13, .int (nI (σ 8 (σ 15 (8 * t + ordr σ t k))))), (14, .int (nI (1)))]) hx hb dL_owner_222 hl (by decide) rfl (fun ls hl => ?_)
                  have hl : lv_has ls 15 [(0, .ref (xa 40 0)), (1, .ref (xa 41 0)), (2, .ref (xa 42 0)), (3, .ref (xa 44 0)), (4, .ref (xa 45 0)), (5, .int (nI (t))), (6, .int (nI (σ 13 (8 * t + ordr σ t k)))), (7, .int (nI (σ 13 (8 * t + ordr σ t (k - 1))))), (8, .int (nI (k))), (9, .int (nI (cpv σ (8 * t + ordr σ t k)))), (10, .int (nI (σ 13 (8 * t + ordr σ t k)))), (11, .int (nI (σ 16 (8 * t + ordr σ t k) - 1900))), (12, .int (nI (v_111))), (13, .int (nI (σ 8 (σ 15 (8 * t + ordr σ t k))))), (14, .int (nI (1)))] := lv_sub hl [1, 2, 3, 4, 5, 6, 0, 7, 8, 9, 10, 11, 12, 13, 14] rfl
                  refine lv_iload hx hb dL_owner_224 (lv_at hl 10 rfl) ?_
                  refine lv_istore (lv' := [(7, .int (nI (σ 13 (8 * t + ordr σ t k)))), (0, .ref (xa 40 0)), (1, .ref (xa 41 0)), (2, .ref (xa 42 0)), (3, .ref (xa 44 0)), (4, .ref (xa 45 0)), (5, .int (nI (t))), (6, .int (nI (σ 13 (8 * t + ordr σ t k)))), (8, .int (nI (k))), (9, .int (nI (cpv σ (8 * t + ordr σ t k)))), (10, .int (nI (σ 13 (8 * t + ordr σ t k)))), (11, .int (nI (σ 16 (8 * t + ordr σ t k) - 1900))), (12, .int (nI (v_111))), (13, .int (nI (σ 8 (σ 15 (8 * t + ordr σ t k))))), (14, .int (nI (1)))]) hx hb dL_owner_226 hl (by decide) rfl (fun ls hl => ?_)
                  have hl : lv_has ls 15 [(0, .ref (xa 40 0)), (1, .ref (xa 41 0)), (2, .ref (xa 42 0)), (3, .ref (xa 44 0)), (4, .ref (xa 45 0)), (5, .int (nI (t))), (6, .int (nI (σ 13 (8 * t + ordr σ t k)))), (7, .int (nI (σ 13 (8 * t + ordr σ t k)))), (8, .int (nI (k))), (9, .int (nI (cpv σ (8 * t + ordr σ t k)))), (10, .int (nI (σ 13 (8 * t + ordr σ t k)))), (11, .int (nI (σ 16 (8 * t + ordr σ t k) - 1900))), (12, .int (nI (v_111))), (13, .int (nI (σ 8 (σ 15 (8 * t + ordr σ t k))))), (14, .int (nI (1)))] := lv_sub hl [1, 2, 3, 4, 5, 6, 7, 0, 8, 9, 10, 11, 12, 13, 14] rfl
                  refine lv_iinc (v := nI (k + 1)) (lv' := [(8, .int (nI (k + 1))), (0, .ref (xa 40 0)), (1, .ref (xa 41 0)), (2, .ref (xa 42 0)), (3, .ref (xa 44 0)), (4, .ref (xa 45 0)), (5, .int (nI (t))), (6, .int (nI (σ 13 (8 * t + ordr σ t k)))), (7, .int (nI (σ 13 (8 * t + ordr σ t k)))), (9, .int (nI (cpv σ (8 * t + ordr σ t k)))), (10, .int (nI (σ 13 (8 * t + ordr σ t k)))), (11, .int (nI (σ 16 (8 * t + ordr σ t k) - 1900))), (12, .int (nI (v_111))), (13, .int (nI (σ 8 (σ 15 (8 * t + ordr σ t k))))), (14, .int (nI (1)))]) hx hb dL_owner_228 hl (k := 8) rfl (x_inc k 1 rfl) (by decide) rfl (fun ls hl => ?_)
                  have hl : lv_has ls 15 [(0, .ref (xa 40 0)), (1, .ref (xa 41 0)), (2, .ref (xa 42 0)), (3, .ref (xa 44 0)), (4, .ref (xa 45 0)), (5, .int (nI (t))), (6, .int (nI (σ 13 (8 * t + ordr σ t k)))), (7, .int (nI (σ 13 (8 * t + ordr σ t k)))), (8, .int (nI (k + 1))), (9, .int (nI (cpv σ (8 * t + ordr σ t k)))), (10, .int (nI (σ 13 (8 * t + ordr σ t k)))), (11, .int (nI (σ 16 (8 * t + ordr σ t k) - 1900))), (12, .int (nI (v_111))), (13, .int (nI (σ 8 (σ 15 (8 * t + ordr σ t k))))), (14, .int (nI (1)))] := lv_sub hl [1, 2, 3, 4, 5, 6, 7, 8, 0, 9, 10, 11, 12, 13, 14] rfl
                  refine lv_goto (tgt := 9) hx hb dL_owner_231 (by decide) ?_
                  exact ih9 (σ 11 t - (k + 1)) (some (σ 13 (8 * t + ordr σ t k)), some (σ 13 (8 * t + ordr σ t k)), k + 1) _ _ _ (by omega) ⟨rfl, hW, lv_sub hl [0, 1, 2, 3, 4, 5, 6, 7, 8] rfl, OwI_y hk0 hT (Or.inr ⟨c_168, Or.inl (by omega)⟩), by (try dsimp only); omega⟩
              · -- eq not
                have c_175 : ¬ (T = σ 13 (8 * t + ordr σ t (k - 1))) := fun h_ => c_175 ((x_eqN (a := T) (b := σ 13 (8 * t + ordr σ t (k - 1))) (by omega) (by omega)).mpr h_)
                refine lv_iload hx hb dL_owner_178 (lv_at hl 9 rfl) ?_
                refine lv_iconst (v := nI (4)) hx hb dL_owner_180 (by decide +kernel) ?_
                refine lv_ishr hx hb dL_owner_181 ?_
                rw [bt_shr (m := cpv σ (8 * t + ordr σ t k)) (b := 4) (cp_lt b_38) (by omega)]
                refine lv_bipush (v := nI (15)) hx hb dL_owner_182 (by decide +kernel) ?_
                refine lv_iand hx hb dL_owner_184 ?_
                rw [cp_k b_38]
                have bb_184 := b_38
                unfold cpo at bb_184
                refine lv_if_ne (tgt := 207) hx hb dL_owner_185 (by decide) (fun c_185 => ?_) (fun c_185 => ?_)
                · -- ne taken
                  have c_185 : ¬ (σ 14 (8 * t + ordr σ t k) = 0) := fun h_ => c_185 ((x_eqZ (a := σ 14 (8 * t + ordr σ t k)) (by omega)).mpr h_)
                  refine lv_iconst (v := nI (0)) hx hb dL_owner_207 (by decide +kernel) ?_
                  refine lv_istore (lv' := [(14, .int (nI (0))), (0, .ref (xa 40 0)), (1, .ref (xa 41 0)), (2, .ref (xa 42 0)), (3, .ref (xa 44 0)), (4, .ref (xa 45 0)), (5, .int (nI (t))), (6, .int (nI (T))), (7, .int (nI (σ 13 (8 * t + ordr σ t (k - 1))))), (8, .int (nI (k))), (9, .int (nI (cpv σ (8 * t + ordr σ t k)))), (10, .int (nI (σ 13 (8 * t + ordr σ t k)))), (11, .int (nI (σ 16 (8 * t + ordr σ t k) - 1900))), (12, .int (nI (v_111))), (13, .int (nI (σ 8 (σ 15 (8 * t + ordr σ t k)))))]) hx hb dL_owner_208 hl (by decide) rfl (fun ls hl => ?_)
                  have hl : lv_has ls 15 [(0, .ref (xa 40 0)), (1, .ref (xa 41 0)), (2, .ref (xa 42 0)), (3, .ref (xa 44 0)), (4, .ref (xa 45 0)), (5, .int (nI (t))), (6, .int (nI (T))), (7, .int (nI (σ 13 (8 * t + ordr σ t (k - 1))))), (8, .int (nI (k))), (9, .int (nI (cpv σ (8 * t + ordr σ t k)))), (10, .int (nI (σ 13 (8 * t + ordr σ t k)))), (11, .int (nI (σ 16 (8 * t + ordr σ t k) - 1900))), (12, .int (nI (v_111))), (13, .int (nI (σ 8 (σ 15 (8 * t + ordr σ t k))))), (14, .int (nI (0)))] := lv_sub hl [1, 2, 3, 4, 5, 6, 7, 8, 9, 10, 11, 12, 13, 14, 0] rfl
                  refine lv_iload hx hb dL_owner_210 (lv_at hl 14 rfl) ?_
                  refine lv_if_eq (tgt := 220) hx hb dL_owner_212 (by decide) (fun c_212 => ?_) (fun c_212 => ?_)
                  · -- eq taken
                    refine lv_iload hx hb dL_owner_220 (lv_at hl 6 rfl) ?_
                    refine lv_istore (lv' := [(6, .int (nI (T))), (0, .ref (xa 40 0)), (1, .ref (xa 41 0)), (2, .ref (xa 42 0)), (3, .ref (xa 44 0)), (4, .ref (xa 45 0)), (5, .int (nI (t))), (7, .int (nI (σ 13 (8 * t + ordr σ t (k - 1))))), (8, .int (nI (k))), (9, .int (nI (cpv σ (8 * t + ordr σ t k)))), (10, .int (nI (σ 13 (8 * t + ordr σ t k)))), (11, .int (nI (σ 16 (8 * t + ordr σ t k) - 1900))), (12, .int (nI (v_111))), (13, .int (nI (σ 8 (σ 15 (8 * t + ordr σ t k))))), (14, .int (nI (0)))]) hx hb dL_owner_222 hl (by decide) rfl (fun ls hl => ?_)
                    have hl : lv_has ls 15 [(0, .ref (xa 40 0)), (1, .ref (xa 41 0)), (2, .ref (xa 42 0)), (3, .ref (xa 44 0)), (4, .ref (xa 45 0)), (5, .int (nI (t))), (6, .int (nI (T))), (7, .int (nI (σ 13 (8 * t + ordr σ t (k - 1))))), (8, .int (nI (k))), (9, .int (nI (cpv σ (8 * t + ordr σ t k)))), (10, .int (nI (σ 13 (8 * t + ordr σ t k)))), (11, .int (nI (σ 16 (8 * t + ordr σ t k) - 1900))), (12, .int (nI (v_111))), (13, .int (nI (σ 8 (σ 15 (8 * t + ordr σ t k))))), (14, .int (nI (0)))] := lv_sub hl [1, 2, 3, 4, 5, 6, 0, 7, 8, 9, 10, 11, 12, 13, 14] rfl
                    refine lv_iload hx hb dL_owner_224 (lv_at hl 10 rfl) ?_
                    refine lv_istore (lv' := [(7, .int (nI (σ 13 (8 * t + ordr σ t k)))), (0, .ref (xa 40 0)), (1, .ref (xa 41 0)), (2, .ref (xa 42 0)), (3, .ref (xa 44 0)), (4, .ref (xa 45 0)), (5, .int (nI (t))), (6, .int (nI (T))), (8, .int (nI (k))), (9, .int (nI (cpv σ (8 * t + ordr σ t k)))), (10, .int (nI (σ 13 (8 * t + ordr σ t k)))), (11, .int (nI (σ 16 (8 * t + ordr σ t k) - 1900))), (12, .int (nI (v_111))), (13, .int (nI (σ 8 (σ 15 (8 * t + ordr σ t k))))), (14, .int (nI (0)))]) hx hb dL_owner_226 hl (by decide) rfl (fun ls hl => ?_)
                    have hl : lv_has ls 15 [(0, .ref (xa 40 0)), (1, .ref (xa 41 0)), (2, .ref (xa 42 0)), (3, .ref (xa 44 0)), (4, .ref (xa 45 0)), (5, .int (nI (t))), (6, .int (nI (T))), (7, .int (nI (σ 13 (8 * t + ordr σ t k)))), (8, .int (nI (k))), (9, .int (nI (cpv σ (8 * t + ordr σ t k)))), (10, .int (nI (σ 13 (8 * t + ordr σ t k)))), (11, .int (nI (σ 16 (8 * t + ordr σ t k) - 1900))), (12, .int (nI (v_111))), (13, .int (nI (σ 8 (σ 15 (8 * t + ordr σ t k))))), (14, .int (nI (0)))] := lv_sub hl [1, 2, 3, 4, 5, 6, 7, 0, 8, 9, 10, 11, 12, 13, 14] rfl
                    refine lv_iinc (v := nI (k + 1)) (lv' := [(8, .int (nI (k + 1))), (0, .ref (xa 40 0)), (1, .ref (xa 41 0)), (2, .ref (xa 42 0)), (3, .ref (xa 44 0)), (4, .ref (xa 45 0)), (5, .int (nI (t))), (6, .int (nI (T))), (7, .int (nI (σ 13 (8 * t + ordr σ t k)))), (9, .int (nI (cpv σ (8 * t + ordr σ t k)))), (10, .int (nI (σ 13 (8 * t + ordr σ t k)))), (11, .int (nI (σ 16 (8 * t + ordr σ t k) - 1900))), (12, .int (nI (v_111))), (13, .int (nI (σ 8 (σ 15 (8 * t + ordr σ t k))))), (14, .int (nI (0)))]) hx hb dL_owner_228 hl (k := 8) rfl (x_inc k 1 rfl) (by decide) rfl (fun ls hl => ?_)
                    have hl : lv_has ls 15 [(0, .ref (xa 40 0)), (1, .ref (xa 41 0)), (2, .ref (xa 42 0)), (3, .ref (xa 44 0)), (4, .ref (xa 45 0)), (5, .int (nI (t))), (6, .int (nI (T))), (7, .int (nI (σ 13 (8 * t + ordr σ t k)))), (8, .int (nI (k + 1))), (9, .int (nI (cpv σ (8 * t + ordr σ t k)))), (10, .int (nI (σ 13 (8 * t + ordr σ t k)))), (11, .int (nI (σ 16 (8 * t + ordr σ t k) - 1900))), (12, .int (nI (v_111))), (13, .int (nI (σ 8 (σ 15 (8 * t + ordr σ t k))))), (14, .int (nI (0)))] := lv_sub hl [1, 2, 3, 4, 5, 6, 7, 8, 0, 9, 10, 11, 12, 13, 14] rfl
                    refine lv_goto (tgt := 9) hx hb dL_owner_231 (by decide) ?_
                    exact ih9 (σ 11 t - (k + 1)) (some (T), some (σ 13 (8 * t + ordr σ t k)), k + 1) _ _ _ (by omega) ⟨rfl, hW, lv_sub hl [0, 1, 2, 3, 4, 5, 6, 7, 8] rfl, OwI_s hk0 hT (fun z => by rcases z with z | ⟨z1, z | ⟨z2, z3, z4⟩⟩ <;> first | omega | exact absurd z c_175), by (try dsimp only); omega⟩
                  · -- eq not
                    exact absurd (by decide) c_212
                · -- ne not
                  have c_185 := (x_eqZ (a := σ 14 (8 * t + ordr σ t k)) (by omega)).mp c_185
                  refine lv_iload hx hb dL_owner_188 (lv_at hl 13 rfl) ?_
                  refine lv_if_le (tgt := 207) hx hb dL_owner_190 (by decide) (fun c_190 => ?_) (fun c_190 => ?_)
                  · -- le taken
                    have c_190 := Int32.le_iff_toInt_le.mp c_190
                    rw [nI_toInt (n := σ 8 (σ 15 (8 * t + ordr σ t k))) (by omega)] at c_190
                    rw [x_t0] at c_190
                    refine lv_iconst (v := nI (0)) hx hb dL_owner_207 (by decide +kernel) ?_
                    refine lv_istore (lv' := [(14, .int (nI (0))), (0, .ref (xa 40 0)), (1, .ref (xa 41 0)), (2, .ref (xa 42 0)), (3, .ref (xa 44 0)), (4, .ref (xa 45 0)), (5, .int (nI (t))), (6, .int (nI (T))), (7, .int (nI (σ 13 (8 * t + ordr σ t (k - 1))))), (8, .int (nI (k))), (9, .int (nI (cpv σ (8 * t + ordr σ t k)))), (10, .int (nI (σ 13 (8 * t + ordr σ t k)))), (11, .int (nI (σ 16 (8 * t + ordr σ t k) - 1900))), (12, .int (nI (v_111))), (13, .int (nI (σ 8 (σ 15 (8 * t + ordr σ t k)))))]) hx hb dL_owner_208 hl (by decide) rfl (fun ls hl => ?_)
                    have hl : lv_has ls 15 [(0, .ref (xa 40 0)), (1, .ref (xa 41 0)), (2, .ref (xa 42 0)), (3, .ref (xa 44 0)), (4, .ref (xa 45 0)), (5, .int (nI (t))), (6, .int (nI (T))), (7, .int (nI (σ 13 (8 * t + ordr σ t (k - 1))))), (8, .int (nI (k))), (9, .int (nI (cpv σ (8 * t + ordr σ t k)))), (10, .int (nI (σ 13 (8 * t + ordr σ t k)))), (11, .int (nI (σ 16 (8 * t + ordr σ t k) - 1900))), (12, .int (nI (v_111))), (13, .int (nI (σ 8 (σ 15 (8 * t + ordr σ t k))))), (14, .int (nI (0)))] := lv_sub hl [1, 2, 3, 4, 5, 6, 7, 8, 9, 10, 11, 12, 13, 14, 0] rfl
                    refine lv_iload hx hb dL_owner_210 (lv_at hl 14 rfl) ?_
                    refine lv_if_eq (tgt := 220) hx hb dL_owner_212 (by decide) (fun c_212 => ?_) (fun c_212 => ?_)
                    · -- eq taken
                      refine lv_iload hx hb dL_owner_220 (lv_at hl 6 rfl) ?_
                      refine lv_istore (lv' := [(6, .int (nI (T))), (0, .ref (xa 40 0)), (1, .ref (xa 41 0)), (2, .ref (xa 42 0)), (3, .ref (xa 44 0)), (4, .ref (xa 45 0)), (5, .int (nI (t))), (7, .int (nI (σ 13 (8 * t + ordr σ t (k - 1))))), (8, .int (nI (k))), (9, .int (nI (cpv σ (8 * t + ordr σ t k)))), (10, .int (nI (σ 13 (8 * t + ordr σ t k)))), (11, .int (nI (σ 16 (8 * t + ordr σ t k) - 1900))), (12, .int (nI (v_111))), (13, .int (nI (σ 8 (σ 15 (8 * t + ordr σ t k))))), (14, .int (nI (0)))]) hx hb dL_owner_222 hl (by decide) rfl (fun ls hl => ?_)
                      have hl : lv_has ls 15 [(0, .ref (xa 40 0)), (1, .ref (xa 41 0)), (2, .ref (xa 42 0)), (3, .ref (xa 44 0)), (4, .ref (xa 45 0)), (5, .int (nI (t))), (6, .int (nI (T))), (7, .int (nI (σ 13 (8 * t + ordr σ t (k - 1))))), (8, .int (nI (k))), (9, .int (nI (cpv σ (8 * t + ordr σ t k)))), (10, .int (nI (σ 13 (8 * t + ordr σ t k)))), (11, .int (nI (σ 16 (8 * t + ordr σ t k) - 1900))), (12, .int (nI (v_111))), (13, .int (nI (σ 8 (σ 15 (8 * t + ordr σ t k))))), (14, .int (nI (0)))] := lv_sub hl [1, 2, 3, 4, 5, 6, 0, 7, 8, 9, 10, 11, 12, 13, 14] rfl
                      refine lv_iload hx hb dL_owner_224 (lv_at hl 10 rfl) ?_
                      refine lv_istore (lv' := [(7, .int (nI (σ 13 (8 * t + ordr σ t k)))), (0, .ref (xa 40 0)), (1, .ref (xa 41 0)), (2, .ref (xa 42 0)), (3, .ref (xa 44 0)), (4, .ref (xa 45 0)), (5, .int (nI (t))), (6, .int (nI (T))), (8, .int (nI (k))), (9, .int (nI (cpv σ (8 * t + ordr σ t k)))), (10, .int (nI (σ 13 (8 * t + ordr σ t k)))), (11, .int (nI (σ 16 (8 * t + ordr σ t k) - 1900))), (12, .int (nI (v_111))), (13, .int (nI (σ 8 (σ 15 (8 * t + ordr σ t k))))), (14, .int (nI (0)))]) hx hb dL_owner_226 hl (by decide) rfl (fun ls hl => ?_)
                      have hl : lv_has ls 15 [(0, .ref (xa 40 0)), (1, .ref (xa 41 0)), (2, .ref (xa 42 0)), (3, .ref (xa 44 0)), (4, .ref (xa 45 0)), (5, .int (nI (t))), (6, .int (nI (T))), (7, .int (nI (σ 13 (8 * t + ordr σ t k)))), (8, .int (nI (k))), (9, .int (nI (cpv σ (8 * t + ordr σ t k)))), (10, .int (nI (σ 13 (8 * t + ordr σ t k)))), (11, .int (nI (σ 16 (8 * t + ordr σ t k) - 1900))), (12, .int (nI (v_111))), (13, .int (nI (σ 8 (σ 15 (8 * t + ordr σ t k))))), (14, .int (nI (0)))] := lv_sub hl [1, 2, 3, 4, 5, 6, 7, 0, 8, 9, 10, 11, 12, 13, 14] rfl
                      refine lv_iinc (v := nI (k + 1)) (lv' := [(8, .int (nI (k + 1))), (0, .ref (xa 40 0)), (1, .ref (xa 41 0)), (2, .ref (xa 42 0)), (3, .ref (xa 44 0)), (4, .ref (xa 45 0)), (5, .int (nI (t))), (6, .int (nI (T))), (7, .int (nI (σ 13 (8 * t + ordr σ t k)))), (9, .int (nI (cpv σ (8 * t + ordr σ t k)))), (10, .int (nI (σ 13 (8 * t + ordr σ t k)))), (11, .int (nI (σ 16 (8 * t + ordr σ t k) - 1900))), (12, .int (nI (v_111))), (13, .int (nI (σ 8 (σ 15 (8 * t + ordr σ t k))))), (14, .int (nI (0)))]) hx hb dL_owner_228 hl (k := 8) rfl (x_inc k 1 rfl) (by decide) rfl (fun ls hl => ?_)
                      have hl : lv_has ls 15 [(0, .ref (xa 40 0)), (1, .ref (xa 41 0)), (2, .ref (xa 42 0)), (3, .ref (xa 44 0)), (4, .ref (xa 45 0)), (5, .int (nI (t))), (6, .int (nI (T))), (7, .int (nI (σ 13 (8 * t + ordr σ t k)))), (8, .int (nI (k + 1))), (9, .int (nI (cpv σ (8 * t + ordr σ t k)))), (10, .int (nI (σ 13 (8 * t + ordr σ t k)))), (11, .int (nI (σ 16 (8 * t + ordr σ t k) - 1900))), (12, .int (nI (v_111))), (13, .int (nI (σ 8 (σ 15 (8 * t + ordr σ t k))))), (14, .int (nI (0)))] := lv_sub hl [1, 2, 3, 4, 5, 6, 7, 8, 0, 9, 10, 11, 12, 13, 14] rfl
                      refine lv_goto (tgt := 9) hx hb dL_owner_231 (by decide) ?_
                      exact ih9 (σ 11 t - (k + 1)) (some (T), some (σ 13 (8 * t + ordr σ t k)), k + 1) _ _ _ (by omega) ⟨rfl, hW, lv_sub hl [0, 1, 2, 3, 4, 5, 6, 7, 8] rfl, OwI_s hk0 hT (fun z => by rcases z with z | ⟨z1, z | ⟨z2, z3, z4⟩⟩ <;> first | omega | exact absurd z c_175), by (try dsimp only); omega⟩
                    · -- eq not
                      exact absurd (by decide) c_212
                  · -- le not
                    have c_190 : ¬ ((nI (σ 8 (σ 15 (8 * t + ordr σ t k)))).toInt ≤ ((0 : Int32)).toInt) := fun h => c_190 (Int32.le_iff_toInt_le.mpr h)
                    rw [nI_toInt (n := σ 8 (σ 15 (8 * t + ordr σ t k))) (by omega)] at c_190
                    rw [x_t0] at c_190
                    refine lv_iload hx hb dL_owner_193 (lv_at hl 12 rfl) ?_
                    refine lv_iload hx hb dL_owner_195 (lv_at hl 11 rfl) ?_
                    refine lv_iload hx hb dL_owner_197 (lv_at hl 13 rfl) ?_
                    refine lv_iadd hx hb dL_owner_199 ?_
                    rw [nI_add]
                    refine lv_icmp_lt (tgt := 207) hx hb dL_owner_200 (by decide) (fun c_200 => ?_) (fun c_200 => ?_)
                    · -- lt taken
                      have c_200 := Int32.lt_iff_toInt_lt.mp c_200
                      rw [nI_toInt (n := v_111) (by omega)] at c_200
                      rw [nI_toInt (n := (σ 16 (8 * t + ordr σ t k) - 1900) + σ 8 (σ 15 (8 * t + ordr σ t k))) (by omega)] at c_200
                      refine lv_iconst (v := nI (0)) hx hb dL_owner_207 (by decide +kernel) ?_
                      refine lv_istore (lv' := [(14, .int (nI (0))), (0, .ref (xa 40 0)), (1, .ref (xa 41 0)), (2, .ref (xa 42 0)), (3, .ref (xa 44 0)), (4, .ref (xa 45 0)), (5, .int (nI (t))), (6, .int (nI (T))), (7, .int (nI (σ 13 (8 * t + ordr σ t (k - 1))))), (8, .int (nI (k))), (9, .int (nI (cpv σ (8 * t + ordr σ t k)))), (10, .int (nI (σ 13 (8 * t + ordr σ t k)))), (11, .int (nI (σ 16 (8 * t + ordr σ t k) - 1900))), (12, .int (nI (v_111))), (13, .int (nI (σ 8 (σ 15 (8 * t + ordr σ t k)))))]) hx hb dL_owner_208 hl (by decide) rfl (fun ls hl => ?_)
                      have hl : lv_has ls 15 [(0, .ref (xa 40 0)), (1, .ref (xa 41 0)), (2, .ref (xa 42 0)), (3, .ref (xa 44 0)), (4, .ref (xa 45 0)), (5, .int (nI (t))), (6, .int (nI (T))), (7, .int (nI (σ 13 (8 * t + ordr σ t (k - 1))))), (8, .int (nI (k))), (9, .int (nI (cpv σ (8 * t + ordr σ t k)))), (10, .int (nI (σ 13 (8 * t + ordr σ t k)))), (11, .int (nI (σ 16 (8 * t + ordr σ t k) - 1900))), (12, .int (nI (v_111))), (13, .int (nI (σ 8 (σ 15 (8 * t + ordr σ t k))))), (14, .int (nI (0)))] := lv_sub hl [1, 2, 3, 4, 5, 6, 7, 8, 9, 10, 11, 12, 13, 14, 0] rfl
                      refine lv_iload hx hb dL_owner_210 (lv_at hl 14 rfl) ?_
                      refine lv_if_eq (tgt := 220) hx hb dL_owner_212 (by decide) (fun c_212 => ?_) (fun c_212 => ?_)
                      · -- eq taken
                        refine lv_iload hx hb dL_owner_220 (lv_at hl 6 rfl) ?_
                        refine lv_istore (lv' := [(6, .int (nI (T))), (0, .ref (xa 40 0)), (1, .ref (xa 41 0)), (2, .ref (xa 42 0)), (3, .ref (xa 44 0)), (4, .ref (xa 45 0)), (5, .int (nI (t))), (7, .int (nI (σ 13 (8 * t + ordr σ t (k - 1))))), (8, .int (nI (k))), (9, .int (nI (cpv σ (8 * t + ordr σ t k)))), (10, .int (nI (σ 13 (8 * t + ordr σ t k)))), (11, .int (nI (σ 16 (8 * t + ordr σ t k) - 1900))), (12, .int (nI (v_111))), (13, .int (nI (σ 8 (σ 15 (8 * t + ordr σ t k))))), (14, .int (nI (0)))]) hx hb dL_owner_222 hl (by decide) rfl (fun ls hl => ?_)
                        have hl : lv_has ls 15 [(0, .ref (xa 40 0)), (1, .ref (xa 41 0)), (2, .ref (xa 42 0)), (3, .ref (xa 44 0)), (4, .ref (xa 45 0)), (5, .int (nI (t))), (6, .int (nI (T))), (7, .int (nI (σ 13 (8 * t + ordr σ t (k - 1))))), (8, .int (nI (k))), (9, .int (nI (cpv σ (8 * t + ordr σ t k)))), (10, .int (nI (σ 13 (8 * t + ordr σ t k)))), (11, .int (nI (σ 16 (8 * t + ordr σ t k) - 1900))), (12, .int (nI (v_111))), (13, .int (nI (σ 8 (σ 15 (8 * t + ordr σ t k))))), (14, .int (nI (0)))] := lv_sub hl [1, 2, 3, 4, 5, 6, 0, 7, 8, 9, 10, 11, 12, 13, 14] rfl
                        refine lv_iload hx hb dL_owner_224 (lv_at hl 10 rfl) ?_
                        refine lv_istore (lv' := [(7, .int (nI (σ 13 (8 * t + ordr σ t k)))), (0, .ref (xa 40 0)), (1, .ref (xa 41 0)), (2, .ref (xa 42 0)), (3, .ref (xa 44 0)), (4, .ref (xa 45 0)), (5, .int (nI (t))), (6, .int (nI (T))), (8, .int (nI (k))), (9, .int (nI (cpv σ (8 * t + ordr σ t k)))), (10, .int (nI (σ 13 (8 * t + ordr σ t k)))), (11, .int (nI (σ 16 (8 * t + ordr σ t k) - 1900))), (12, .int (nI (v_111))), (13, .int (nI (σ 8 (σ 15 (8 * t + ordr σ t k))))), (14, .int (nI (0)))]) hx hb dL_owner_226 hl (by decide) rfl (fun ls hl => ?_)
                        have hl : lv_has ls 15 [(0, .ref (xa 40 0)), (1, .ref (xa 41 0)), (2, .ref (xa 42 0)), (3, .ref (xa 44 0)), (4, .ref (xa 45 0)), (5, .int (nI (t))), (6, .int (nI (T))), (7, .int (nI (σ 13 (8 * t + ordr σ t k)))), (8, .int (nI (k))), (9, .int (nI (cpv σ (8 * t + ordr σ t k)))), (10, .int (nI (σ 13 (8 * t + ordr σ t k)))), (11, .int (nI (σ 16 (8 * t + ordr σ t k) - 1900))), (12, .int (nI (v_111))), (13, .int (nI (σ 8 (σ 15 (8 * t + ordr σ t k))))), (14, .int (nI (0)))] := lv_sub hl [1, 2, 3, 4, 5, 6, 7, 0, 8, 9, 10, 11, 12, 13, 14] rfl
                        refine lv_iinc (v := nI (k + 1)) (lv' := [(8, .int (nI (k + 1))), (0, .ref (xa 40 0)), (1, .ref (xa 41 0)), (2, .ref (xa 42 0)), (3, .ref (xa 44 0)), (4, .ref (xa 45 0)), (5, .int (nI (t))), (6, .int (nI (T))), (7, .int (nI (σ 13 (8 * t + ordr σ t k)))), (9, .int (nI (cpv σ (8 * t + ordr σ t k)))), (10, .int (nI (σ 13 (8 * t + ordr σ t k)))), (11, .int (nI (σ 16 (8 * t + ordr σ t k) - 1900))), (12, .int (nI (v_111))), (13, .int (nI (σ 8 (σ 15 (8 * t + ordr σ t k))))), (14, .int (nI (0)))]) hx hb dL_owner_228 hl (k := 8) rfl (x_inc k 1 rfl) (by decide) rfl (fun ls hl => ?_)
                        have hl : lv_has ls 15 [(0, .ref (xa 40 0)), (1, .ref (xa 41 0)), (2, .ref (xa 42 0)), (3, .ref (xa 44 0)), (4, .ref (xa 45 0)), (5, .int (nI (t))), (6, .int (nI (T))), (7, .int (nI (σ 13 (8 * t + ordr σ t k)))), (8, .int (nI (k + 1))), (9, .int (nI (cpv σ (8 * t + ordr σ t k)))), (10, .int (nI (σ 13 (8 * t + ordr σ t k)))), (11, .int (nI (σ 16 (8 * t + ordr σ t k) - 1900))), (12, .int (nI (v_111))), (13, .int (nI (σ 8 (σ 15 (8 * t + ordr σ t k))))), (14, .int (nI (0)))] := lv_sub hl [1, 2, 3, 4, 5, 6, 7, 8, 0, 9, 10, 11, 12, 13, 14] rfl
                        refine lv_goto (tgt := 9) hx hb dL_owner_231 (by decide) ?_
                        exact ih9 (σ 11 t - (k + 1)) (some (T), some (σ 13 (8 * t + ordr σ t k)), k + 1) _ _ _ (by omega) ⟨rfl, hW, lv_sub hl [0, 1, 2, 3, 4, 5, 6, 7, 8] rfl, OwI_s hk0 hT (fun z => by rcases z with z | ⟨z1, z | ⟨z2, z3, z4⟩⟩ <;> first | omega | exact absurd z c_175), by (try dsimp only); omega⟩
                      · -- eq not
                        exact absurd (by decide) c_212
                    · -- lt not
                      have c_200 : ¬ ((nI (v_111)).toInt < (nI ((σ 16 (8 * t + ordr σ t k) - 1900) + σ 8 (σ 15 (8 * t + ordr σ t k)))).toInt) := fun h => c_200 (Int32.lt_iff_toInt_lt.mpr h)
                      rw [nI_toInt (n := v_111) (by omega)] at c_200
                      rw [nI_toInt (n := (σ 16 (8 * t + ordr σ t k) - 1900) + σ 8 (σ 15 (8 * t + ordr σ t k))) (by omega)] at c_200
                      refine lv_iconst (v := nI (1)) hx hb dL_owner_203 (by decide +kernel) ?_
                      refine lv_goto (tgt := 208) hx hb dL_owner_204 (by decide) ?_
                      refine lv_istore (lv' := [(14, .int (nI (1))), (0, .ref (xa 40 0)), (1, .ref (xa 41 0)), (2, .ref (xa 42 0)), (3, .ref (xa 44 0)), (4, .ref (xa 45 0)), (5, .int (nI (t))), (6, .int (nI (T))), (7, .int (nI (σ 13 (8 * t + ordr σ t (k - 1))))), (8, .int (nI (k))), (9, .int (nI (cpv σ (8 * t + ordr σ t k)))), (10, .int (nI (σ 13 (8 * t + ordr σ t k)))), (11, .int (nI (σ 16 (8 * t + ordr σ t k) - 1900))), (12, .int (nI (v_111))), (13, .int (nI (σ 8 (σ 15 (8 * t + ordr σ t k)))))]) hx hb dL_owner_208 hl (by decide) rfl (fun ls hl => ?_)
                      have hl : lv_has ls 15 [(0, .ref (xa 40 0)), (1, .ref (xa 41 0)), (2, .ref (xa 42 0)), (3, .ref (xa 44 0)), (4, .ref (xa 45 0)), (5, .int (nI (t))), (6, .int (nI (T))), (7, .int (nI (σ 13 (8 * t + ordr σ t (k - 1))))), (8, .int (nI (k))), (9, .int (nI (cpv σ (8 * t + ordr σ t k)))), (10, .int (nI (σ 13 (8 * t + ordr σ t k)))), (11, .int (nI (σ 16 (8 * t + ordr σ t k) - 1900))), (12, .int (nI (v_111))), (13, .int (nI (σ 8 (σ 15 (8 * t + ordr σ t k))))), (14, .int (nI (1)))] := lv_sub hl [1, 2, 3, 4, 5, 6, 7, 8, 9, 10, 11, 12, 13, 14, 0] rfl
                      refine lv_iload hx hb dL_owner_210 (lv_at hl 14 rfl) ?_
                      refine lv_if_eq (tgt := 220) hx hb dL_owner_212 (by decide) (fun c_212 => ?_) (fun c_212 => ?_)
                      · -- eq taken
                        exact absurd c_212 (by decide)
                      · -- eq not
                        refine lv_iload hx hb dL_owner_215 (lv_at hl 10 rfl) ?_
                        refine lv_goto (tgt := 222) hx hb dL_owner_217 (by decide) ?_
                        refine lv_istore (lv' := [(6, .int (nI (σ 13 (8 * t + ordr σ t k)))), (0, .ref (xa 40 0)), (1, .ref (xa 41 0)), (2, .ref (xa 42 0)), (3, .ref (xa 44 0)), (4, .ref (xa 45 0)), (5, .int (nI (t))), (7, .int (nI (σ 13 (8 * t + ordr σ t (k - 1))))), (8, .int (nI (k))), (9, .int (nI (cpv σ (8 * t + ordr σ t k)))), (10, .int (nI (σ 13 (8 * t + ordr σ t k)))), (11, .int (nI (σ 16 (8 * t + ordr σ t k) - 1900))), (12, .int (nI (v_111))), (13, .int (nI (σ 8 (σ 15 (8 * t + ordr σ t k))))), (14, .int (nI (1)))]) hx hb dL_owner_222 hl (by decide) rfl (fun ls hl => ?_)
                        have hl : lv_has ls 15 [(0, .ref (xa 40 0)), (1, .ref (xa 41 0)), (2, .ref (xa 42 0)), (3, .ref (xa 44 0)), (4, .ref (xa 45 0)), (5, .int (nI (t))), (6, .int (nI (σ 13 (8 * t + ordr σ t k)))), (7, .int (nI (σ 13 (8 * t + ordr σ t (k - 1))))), (8, .int (nI (k))), (9, .int (nI (cpv σ (8 * t + ordr σ t k)))), (10, .int (nI (σ 13 (8 * t + ordr σ t k)))), (11, .int (nI (σ 16 (8 * t + ordr σ t k) - 1900))), (12, .int (nI (v_111))), (13, .int (nI (σ 8 (σ 15 (8 * t + ordr σ t k))))), (14, .int (nI (1)))] := lv_sub hl [1, 2, 3, 4, 5, 6, 0, 7, 8, 9, 10, 11, 12, 13, 14] rfl
                        refine lv_iload hx hb dL_owner_224 (lv_at hl 10 rfl) ?_
                        refine lv_istore (lv' := [(7, .int (nI (σ 13 (8 * t + ordr σ t k)))), (0, .ref (xa 40 0)), (1, .ref (xa 41 0)), (2, .ref (xa 42 0)), (3, .ref (xa 44 0)), (4, .ref (xa 45 0)), (5, .int (nI (t))), (6, .int (nI (σ 13 (8 * t + ordr σ t k)))), (8, .int (nI (k))), (9, .int (nI (cpv σ (8 * t + ordr σ t k)))), (10, .int (nI (σ 13 (8 * t + ordr σ t k)))), (11, .int (nI (σ 16 (8 * t + ordr σ t k) - 1900))), (12, .int (nI (v_111))), (13, .int (nI (σ 8 (σ 15 (8 * t + ordr σ t k))))), (14, .int (nI (1)))]) hx hb dL_owner_226 hl (by decide) rfl (fun ls hl => ?_)
                        have hl : lv_has ls 15 [(0, .ref (xa 40 0)), (1, .ref (xa 41 0)), (2, .ref (xa 42 0)), (3, .ref (xa 44 0)), (4, .ref (xa 45 0)), (5, .int (nI (t))), (6, .int (nI (σ 13 (8 * t + ordr σ t k)))), (7, .int (nI (σ 13 (8 * t + ordr σ t k)))), (8, .int (nI (k))), (9, .int (nI (cpv σ (8 * t + ordr σ t k)))), (10, .int (nI (σ 13 (8 * t + ordr σ t k)))), (11, .int (nI (σ 16 (8 * t + ordr σ t k) - 1900))), (12, .int (nI (v_111))), (13, .int (nI (σ 8 (σ 15 (8 * t + ordr σ t k))))), (14, .int (nI (1)))] := lv_sub hl [1, 2, 3, 4, 5, 6, 7, 0, 8, 9, 10, 11, 12, 13, 14] rfl
                        refine lv_iinc (v := nI (k + 1)) (lv' := [(8, .int (nI (k + 1))), (0, .ref (xa 40 0)), (1, .ref (xa 41 0)), (2, .ref (xa 42 0)), (3, .ref (xa 44 0)), (4, .ref (xa 45 0)), (5, .int (nI (t))), (6, .int (nI (σ 13 (8 * t + ordr σ t k)))), (7, .int (nI (σ 13 (8 * t + ordr σ t k)))), (9, .int (nI (cpv σ (8 * t + ordr σ t k)))), (10, .int (nI (σ 13 (8 * t + ordr σ t k)))), (11, .int (nI (σ 16 (8 * t + ordr σ t k) - 1900))), (12, .int (nI (v_111))), (13, .int (nI (σ 8 (σ 15 (8 * t + ordr σ t k))))), (14, .int (nI (1)))]) hx hb dL_owner_228 hl (k := 8) rfl (x_inc k 1 rfl) (by decide) rfl (fun ls hl => ?_)
                        have hl : lv_has ls 15 [(0, .ref (xa 40 0)), (1, .ref (xa 41 0)), (2, .ref (xa 42 0)), (3, .ref (xa 44 0)), (4, .ref (xa 45 0)), (5, .int (nI (t))), (6, .int (nI (σ 13 (8 * t + ordr σ t k)))), (7, .int (nI (σ 13 (8 * t + ordr σ t k)))), (8, .int (nI (k + 1))), (9, .int (nI (cpv σ (8 * t + ordr σ t k)))), (10, .int (nI (σ 13 (8 * t + ordr σ t k)))), (11, .int (nI (σ 16 (8 * t + ordr σ t k) - 1900))), (12, .int (nI (v_111))), (13, .int (nI (σ 8 (σ 15 (8 * t + ordr σ t k))))), (14, .int (nI (1)))] := lv_sub hl [1, 2, 3, 4, 5, 6, 7, 8, 0, 9, 10, 11, 12, 13, 14] rfl
                        refine lv_goto (tgt := 9) hx hb dL_owner_231 (by decide) ?_
                        exact ih9 (σ 11 t - (k + 1)) (some (σ 13 (8 * t + ordr σ t k)), some (σ 13 (8 * t + ordr σ t k)), k + 1) _ _ _ (by omega) ⟨rfl, hW, lv_sub hl [0, 1, 2, 3, 4, 5, 6, 7, 8] rfl, OwI_y hk0 hT (Or.inr ⟨c_168, Or.inr ⟨by omega, by omega, by omega⟩⟩), by (try dsimp only); omega⟩
        · -- ne not
          have c_141 := (x_eqN (a := σ 18 (8 * t + ordr σ t k)) (b := 1) (by omega) (by omega)).mp c_141
          refine lv_iconst (v := nI (1)) hx hb dL_owner_144 (by decide +kernel) ?_
          refine lv_goto (tgt := 149) hx hb dL_owner_145 (by decide) ?_
          refine lv_istore (lv' := [(14, .int (nI (1))), (0, .ref (xa 40 0)), (1, .ref (xa 41 0)), (2, .ref (xa 42 0)), (3, .ref (xa 44 0)), (4, .ref (xa 45 0)), (5, .int (nI (t))), (6, .int (nI (T))), (7, .int (nI (σ 13 (8 * t + ordr σ t (k - 1))))), (8, .int (nI (k))), (9, .int (nI (cpv σ (8 * t + ordr σ t k)))), (10, .int (nI (σ 13 (8 * t + ordr σ t k)))), (11, .int (nI (σ 16 (8 * t + ordr σ t k) - 1900))), (12, .int (nI (v_111))), (13, .int (nI (σ 8 (σ 15 (8 * t + ordr σ t k)))))]) hx hb dL_owner_149 hl (by decide) rfl (fun ls hl => ?_)
          have hl : lv_has ls 15 [(0, .ref (xa 40 0)), (1, .ref (xa 41 0)), (2, .ref (xa 42 0)), (3, .ref (xa 44 0)), (4, .ref (xa 45 0)), (5, .int (nI (t))), (6, .int (nI (T))), (7, .int (nI (σ 13 (8 * t + ordr σ t (k - 1))))), (8, .int (nI (k))), (9, .int (nI (cpv σ (8 * t + ordr σ t k)))), (10, .int (nI (σ 13 (8 * t + ordr σ t k)))), (11, .int (nI (σ 16 (8 * t + ordr σ t k) - 1900))), (12, .int (nI (v_111))), (13, .int (nI (σ 8 (σ 15 (8 * t + ordr σ t k))))), (14, .int (nI (1)))] := lv_sub hl [1, 2, 3, 4, 5, 6, 7, 8, 9, 10, 11, 12, 13, 14, 0] rfl
          refine lv_iload hx hb dL_owner_151 (lv_at hl 14 rfl) ?_
          refine lv_if_ne (tgt := 210) hx hb dL_owner_153 (by decide) (fun c_153 => ?_) (fun c_153 => ?_)
          · -- ne taken
            refine lv_iload hx hb dL_owner_210 (lv_at hl 14 rfl) ?_
            refine lv_if_eq (tgt := 220) hx hb dL_owner_212 (by decide) (fun c_212 => ?_) (fun c_212 => ?_)
            · -- eq taken
              exact absurd c_212 (by decide)
            · -- eq not
              refine lv_iload hx hb dL_owner_215 (lv_at hl 10 rfl) ?_
              refine lv_goto (tgt := 222) hx hb dL_owner_217 (by decide) ?_
              refine lv_istore (lv' := [(6, .int (nI (σ 13 (8 * t + ordr σ t k)))), (0, .ref (xa 40 0)), (1, .ref (xa 41 0)), (2, .ref (xa 42 0)), (3, .ref (xa 44 0)), (4, .ref (xa 45 0)), (5, .int (nI (t))), (7, .int (nI (σ 13 (8 * t + ordr σ t (k - 1))))), (8, .int (nI (k))), (9, .int (nI (cpv σ (8 * t + ordr σ t k)))), (10, .int (nI (σ 13 (8 * t + ordr σ t k)))), (11, .int (nI (σ 16 (8 * t + ordr σ t k) - 1900))), (12, .int (nI (v_111))), (13, .int (nI (σ 8 (σ 15 (8 * t + ordr σ t k))))), (14, .int (nI (1)))]) hx hb dL_owner_222 hl (by decide) rfl (fun ls hl => ?_)
              have hl : lv_has ls 15 [(0, .ref (xa 40 0)), (1, .ref (xa 41 0)), (2, .ref (xa 42 0)), (3, .ref (xa 44 0)), (4, .ref (xa 45 0)), (5, .int (nI (t))), (6, .int (nI (σ 13 (8 * t + ordr σ t k)))), (7, .int (nI (σ 13 (8 * t + ordr σ t (k - 1))))), (8, .int (nI (k))), (9, .int (nI (cpv σ (8 * t + ordr σ t k)))), (10, .int (nI (σ 13 (8 * t + ordr σ t k)))), (11, .int (nI (σ 16 (8 * t + ordr σ t k) - 1900))), (12, .int (nI (v_111))), (13, .int (nI (σ 8 (σ 15 (8 * t + ordr σ t k))))), (14, .int (nI (1)))] := lv_sub hl [1, 2, 3, 4, 5, 6, 0, 7, 8, 9, 10, 11, 12, 13, 14] rfl
              refine lv_iload hx hb dL_owner_224 (lv_at hl 10 rfl) ?_
              refine lv_istore (lv' := [(7, .int (nI (σ 13 (8 * t + ordr σ t k)))), (0, .ref (xa 40 0)), (1, .ref (xa 41 0)), (2, .ref (xa 42 0)), (3, .ref (xa 44 0)), (4, .ref (xa 45 0)), (5, .int (nI (t))), (6, .int (nI (σ 13 (8 * t + ordr σ t k)))), (8, .int (nI (k))), (9, .int (nI (cpv σ (8 * t + ordr σ t k)))), (10, .int (nI (σ 13 (8 * t + ordr σ t k)))), (11, .int (nI (σ 16 (8 * t + ordr σ t k) - 1900))), (12, .int (nI (v_111))), (13, .int (nI (σ 8 (σ 15 (8 * t + ordr σ t k))))), (14, .int (nI (1)))]) hx hb dL_owner_226 hl (by decide) rfl (fun ls hl => ?_)
              have hl : lv_has ls 15 [(0, .ref (xa 40 0)), (1, .ref (xa 41 0)), (2, .ref (xa 42 0)), (3, .ref (xa 44 0)), (4, .ref (xa 45 0)), (5, .int (nI (t))), (6, .int (nI (σ 13 (8 * t + ordr σ t k)))), (7, .int (nI (σ 13 (8 * t + ordr σ t k)))), (8, .int (nI (k))), (9, .int (nI (cpv σ (8 * t + ordr σ t k)))), (10, .int (nI (σ 13 (8 * t + ordr σ t k)))), (11, .int (nI (σ 16 (8 * t + ordr σ t k) - 1900))), (12, .int (nI (v_111))), (13, .int (nI (σ 8 (σ 15 (8 * t + ordr σ t k))))), (14, .int (nI (1)))] := lv_sub hl [1, 2, 3, 4, 5, 6, 7, 0, 8, 9, 10, 11, 12, 13, 14] rfl
              refine lv_iinc (v := nI (k + 1)) (lv' := [(8, .int (nI (k + 1))), (0, .ref (xa 40 0)), (1, .ref (xa 41 0)), (2, .ref (xa 42 0)), (3, .ref (xa 44 0)), (4, .ref (xa 45 0)), (5, .int (nI (t))), (6, .int (nI (σ 13 (8 * t + ordr σ t k)))), (7, .int (nI (σ 13 (8 * t + ordr σ t k)))), (9, .int (nI (cpv σ (8 * t + ordr σ t k)))), (10, .int (nI (σ 13 (8 * t + ordr σ t k)))), (11, .int (nI (σ 16 (8 * t + ordr σ t k) - 1900))), (12, .int (nI (v_111))), (13, .int (nI (σ 8 (σ 15 (8 * t + ordr σ t k))))), (14, .int (nI (1)))]) hx hb dL_owner_228 hl (k := 8) rfl (x_inc k 1 rfl) (by decide) rfl (fun ls hl => ?_)
              have hl : lv_has ls 15 [(0, .ref (xa 40 0)), (1, .ref (xa 41 0)), (2, .ref (xa 42 0)), (3, .ref (xa 44 0)), (4, .ref (xa 45 0)), (5, .int (nI (t))), (6, .int (nI (σ 13 (8 * t + ordr σ t k)))), (7, .int (nI (σ 13 (8 * t + ordr σ t k)))), (8, .int (nI (k + 1))), (9, .int (nI (cpv σ (8 * t + ordr σ t k)))), (10, .int (nI (σ 13 (8 * t + ordr σ t k)))), (11, .int (nI (σ 16 (8 * t + ordr σ t k) - 1900))), (12, .int (nI (v_111))), (13, .int (nI (σ 8 (σ 15 (8 * t + ordr σ t k))))), (14, .int (nI (1)))] := lv_sub hl [1, 2, 3, 4, 5, 6, 7, 8, 0, 9, 10, 11, 12, 13, 14] rfl
              refine lv_goto (tgt := 9) hx hb dL_owner_231 (by decide) ?_
              exact ih9 (σ 11 t - (k + 1)) (some (σ 13 (8 * t + ordr σ t k)), some (σ 13 (8 * t + ordr σ t k)), k + 1) _ _ _ (by omega) ⟨rfl, hW, lv_sub hl [0, 1, 2, 3, 4, 5, 6, 7, 8] rfl, OwI_y hk0 hT (Or.inl (by omega)), by (try dsimp only); omega⟩
          · -- ne not
            exact absurd c_153 (by decide)
    ·
      refine lv_iload hx hb dL_owner_59 (lv_at hl 8 rfl) ?_
      refine lv_iconst (v := nI (1)) hx hb dL_owner_61 (by decide +kernel) ?_
      refine lv_iadd hx hb dL_owner_62 ?_
      rw [nI_add]
      refine lv_aload hx hb dL_owner_63 (lv_at hl 4 rfl) ?_
      refine lv_iconst (v := nI (2)) hx hb dL_owner_65 (by decide +kernel) ?_
      refine lv_iload hx hb dL_owner_66 (lv_at hl 5 rfl) ?_
      refine lv_iadd hx hb dL_owner_68 ?_
      rw [nI_add]
      refine x_ild hx hb hW 45 0 (LA_45 hA) (2 + t) rfl (by omega) (by omega) (v := nI (σ 11 t)) (congrArg nI (mv_2 σ (t := t) (by omega))) dL_owner_69 ?_
      have b_69 := hB 11 t
      refine lv_icmp_ge (tgt := 103) hx hb dL_owner_70 (by decide) (fun c_70 => ?_) (fun c_70 => ?_)
      · -- ge taken
        have c_70 := Int32.le_iff_toInt_le.mp c_70
        rw [nI_toInt (n := k + 1) (by omega)] at c_70
        rw [nI_toInt (n := σ 11 t) (by omega)] at c_70
        refine lv_aload hx hb dL_owner_103 (lv_at hl 4 rfl) ?_
        refine lv_iconst (v := nI (0)) hx hb dL_owner_105 (by decide +kernel) ?_
        refine x_ild hx hb hW 45 0 (LA_45 hA) (0) rfl (by omega) (by omega) (v := nI (σ 0 0)) rfl dL_owner_106 ?_
        have b_106 := hB 0 0
        refine lv_sipush (v := nI (1900)) hx hb dL_owner_107 (by decide +kernel) ?_
        refine lv_isub hx hb dL_owner_110 ?_
        rw [pk_sub (a := σ 0 0) (b := 1900) (by omega)]
        exact J111 _ _ ((σ 0 0) - 1900) hW (⟨by unfold untO; rw [if_neg (by omega)]; omega, by omega⟩)
      · -- ge not
        have c_70 : ¬ ((nI (σ 11 t)).toInt ≤ (nI (k + 1)).toInt) := fun h => c_70 (Int32.le_iff_toInt_le.mpr h)
        rw [nI_toInt (n := k + 1) (by omega)] at c_70
        rw [nI_toInt (n := σ 11 t) (by omega)] at c_70
        refine lv_aload_n hx hb dL_owner_73 rfl (lv_at hl 3 rfl) ?_
        refine lv_bipush (v := nI (8)) hx hb dL_owner_74 (by decide +kernel) ?_
        refine lv_iload hx hb dL_owner_76 (lv_at hl 5 rfl) ?_
        refine lv_imul hx hb dL_owner_78 ?_
        rw [pk_mul]
        refine lv_aload_n hx hb dL_owner_79 rfl (lv_at hl 3 rfl) ?_
        refine lv_aload hx hb dL_owner_80 (lv_at hl 4 rfl) ?_
        refine lv_iload hx hb dL_owner_82 (lv_at hl 5 rfl) ?_
        refine lv_iload hx hb dL_owner_84 (lv_at hl 8 rfl) ?_
        refine lv_iconst (v := nI (1)) hx hb dL_owner_86 (by decide +kernel) ?_
        refine lv_iadd hx hb dL_owner_87 ?_
        rw [nI_add]
        refine xs_i (As := [.ref (xa 44 0), .ref (xa 45 0), .int (nI (t)), .int (nI (k + 1))]) (rest := [.int (nI (8 * t)), .ref (xa 44 0)]) ⟨hx, hb, hml, hown, hts⟩ (c_L_at l D sa xa G σ hI hA t (k + 1) (by omega) (by omega)) (va_cwS 4 hts gL_owner_L_at rfl rfl rfl (by decide +kernel) ⟨Nat.le_of_ble_eq_true rfl, Nat.le_of_ble_eq_true rfl⟩) hW rfl rfl hl.1 (Nat.le_of_ble_eq_true rfl) dL_owner_88 ⟨Nat.le_of_ble_eq_true rfl, Nat.le_of_ble_eq_true rfl⟩ (fun r_88 xa1 G1 H locs hp hW => ?_)
        obtain ⟨hu, hr_88⟩ := hp
        cases hu
        subst hr_88
        have bo_88 := ordr_lt (σ := σ) (i := t) (q := k + 1) (by omega)
        refine lv_iadd hx hb dL_owner_91 ?_
        rw [nI_add]
        refine x_ild hx hb hW 44 0 (LA_44 hA) (8 * t + ordr σ t (k + 1)) rfl (by omega) (by omega) (v := nI (cpv σ (8 * t + ordr σ t (k + 1)))) rfl dL_owner_92 ?_
        have b_92 := LI.cp hI (t := t) (k := ordr σ t (k + 1)) (by omega) (by omega)
        refine lv_bipush (v := nI (12)) hx hb dL_owner_93 (by decide +kernel) ?_
        refine lv_ishr hx hb dL_owner_95 ?_
        rw [bt_shr (m := cpv σ (8 * t + ordr σ t (k + 1))) (b := 12) (cp_lt b_92) (by omega)]
        refine lv_sipush (v := nI (255)) hx hb dL_owner_96 (by decide +kernel) ?_
        refine lv_iand hx hb dL_owner_99 ?_
        rw [cp_y b_92]
        have bb_99 := b_92
        unfold cpo at bb_99
        refine lv_goto (tgt := 111) hx hb dL_owner_100 (by decide) ?_
        exact J111 _ _ (σ 16 (8 * t + ordr σ t (k + 1)) - 1900) hW (⟨by unfold untO; rw [if_pos (by omega)]; omega, by omega⟩)
