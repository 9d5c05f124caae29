set_option maxHeartbeats 4000000 in
set_option maxRecDepth 100000 in
theorem c_X5_ownerOf (l : Launch) (D : xD) (sa : Nat → Nat) (xa : xA) (G0 : xG) (σ : Sg) (ρ : Nat → Nat) (la : Nat) (hg : Gd σ) (i : Nat) (hi : i < σ 12 0) : xCi l yX5_ownerOf wsX5_ownerOf ({ frames := 16, cells := 0, slots := 0, locals := 500 } : Room) D sa xa (mG G0 D xa σ ρ la) [.ref (xa 20 0), .int (nI i)] (fun r u => ∃ ρ1, u = (xa, mG G0 D xa σ ρ1 la) ∧ ∃ o, r = oi o ∧ own σ i o) 0 0 := by
  have hB := hg.1
  have h5 := hg.2.1.1
  have h7 := hg.2.1.2.1
  have h12 := hg.2.1.2.2.1
  have hy0 := hg.2.1.2.2.2.1
  have hy1 := hg.2.1.2.2.2.2
  have hm := hg.hm
  have hs8 := hg.hs8
  intro sz
  refine Met.ofW (cc := cX5_ownerOf) (maxL := 9) (ret := (some .int)) (by decide +kernel) rfl ?_
  intro p e s m args below meth c s₁ B hml hv
  obtain ⟨rfl, hsz, hv2⟩ := hv
  subst hsz
  have hx := B.exec
  have hb := B.bytes
  have hr := B.returns
  have hts := atoms_spec (ws := wsX5_ownerOf) B.pre
  have hown : s.vm.findClass RX5 = some m.cls := findClass_of_methodNamed B.named
  have hlocks := B.notSynchronized
  have hin5 : ∀ w ∈ wsX50, w ∈ wsX5_ownerOf := by decide +kernel
  have hW := xW.start (s := s) ⟨rfl, hv2⟩
  clear hv2
  generalize xAw xa (mG G0 D xa σ ρ la) s.heap.size = A at hW ⊢
  have hl := lv_entry ([.ref (xa 20 0), .int (nI (i))]) (n := 9) (Nat.le_of_ble_eq_true rfl)
  rw [lg_entry_eq]
  generalize (lg_sl ([.ref (xa 20 0), .int (nI (i))]) ++ List.replicate (9 - (lg_sl ([.ref (xa 20 0), .int (nI (i))])).length) Slot.unset).toArray = ls at hl ⊢
  have hl : lv_has ls 9 [(0, .ref (xa 20 0)), (1, .int (nI (i)))] := hl
  have hst := fun k hk => (hg.2.2.2.2.1 i hi).2.2 k hk
  have h8 := hs8 i
  refine lv_aload_n hx hb dX5_ownerOf_0 rfl (lv_at hl 0 rfl) ?_
  refine lv_iload_n hx hb dX5_ownerOf_1 rfl (lv_at hl 1 rfl) ?_
  refine xv_i (As := [.int (nI (i))]) (rest := []) ⟨hx, hb, hml, hown, hts⟩ (c_X5_lays l D sa xa G0 σ ρ la hg i (by omega)) (cwV 1 hts gX5_ownerOf_X5_lays rfl rfl rfl (by decide +kernel) ⟨Nat.le_of_ble_eq_true rfl, Nat.le_of_ble_eq_true rfl⟩) hW (mG_obj _ _ _ _ _ _) rfl rfl rfl rfl hl.1 (Nat.le_of_ble_eq_true rfl) dX5_ownerOf_2 ⟨Nat.le_of_ble_eq_true rfl, Nat.le_of_ble_eq_true rfl⟩ (fun r_2 xa1 G1 H locs hp hW => ?_)
  obtain ⟨ρl1, hu, hr_2, hoρl1⟩ := hp
  cases hu
  subst hr_2
  have h8 := hs8 i
  refine lv_istore_n (lv' := [(2, .int (nI (σ 11 i))), (0, .ref (xa 20 0)), (1, .int (nI (i)))]) hx hb dX5_ownerOf_5 rfl hl (by decide) rfl (fun ls hl => ?_)
  have hl : lv_has ls 9 [(0, .ref (xa 20 0)), (1, .int (nI (i))), (2, .int (nI (σ 11 i)))] := lv_sub hl [1, 2, 0] rfl
  refine lv_iload_n hx hb dX5_ownerOf_6 rfl (lv_at hl 2 rfl) ?_
  refine lv_if_ne (tgt := 14) hx hb dX5_ownerOf_7 (by decide) (fun c_7 => ?_) (fun c_7 => ?_)
  · -- ne taken
    have c_7 : ¬ (σ 11 i = 0) := fun h_ => c_7 ((x_eqZ (a := σ 11 i) (by omega)).mpr h_)
    refine lv_aload_n hx hb dX5_ownerOf_14 rfl (lv_at hl 0 rfl) ?_
    refine m_get hx hb hts hin5 hown hW 13 (by decide) rfl (hts (.fieldLink RX5 42 "RestitutoryModel" "parties" "[I") (by decide +kernel)) (v := .ref (xa 20 13)) rfl dX5_ownerOf_15 ?_
    refine lv_bipush (v := nI (8)) hx hb dX5_ownerOf_18 (by decide +kernel) ?_
    refine lv_iload_n hx hb dX5_ownerOf_20 rfl (lv_at hl 1 rfl) ?_
    refine lv_imul hx hb dX5_ownerOf_21 ?_
    rw [pk_mul]
    refine lv_aload_n hx hb dX5_ownerOf_22 rfl (lv_at hl 0 rfl) ?_
    refine m_get hx hb hts hin5 hown hW 19 (by decide) rfl (hts (.fieldLink RX5 60 "RestitutoryModel" "order" "[I") (by decide +kernel)) (v := .ref (xa 20 19)) rfl dX5_ownerOf_23 ?_
    refine lv_iconst (v := nI (0)) hx hb dX5_ownerOf_26 (by decide +kernel) ?_
    refine m_old hx hb hW (0) (by omega) (v := ordr σ i 0) (hoρl1 _ (by omega)) dX5_ownerOf_27 ?_
    have o_27 := ordr_lt (σ := σ) (i := i) (q := 0) (by omega)
    refine lv_iadd hx hb dX5_ownerOf_28 ?_
    rw [nI_add]
    refine m_ild hx hb hW 13 80 (by unfold mArr; decide) rfl rfl ((8 * i) + (ordr σ i 0)) (by omega) (v := σ 13 ((8 * i) + (ordr σ i 0))) rfl dX5_ownerOf_29 ?_
    have b_29 := hB 13 ((8 * i) + (ordr σ i 0))
    refine lv_istore_n (lv' := [(3, .int (nI (σ 13 ((8 * i) + (ordr σ i 0))))), (0, .ref (xa 20 0)), (1, .int (nI (i))), (2, .int (nI (σ 11 i)))]) hx hb dX5_ownerOf_30 rfl hl (by decide) rfl (fun ls hl => ?_)
    have hl : lv_has ls 9 [(0, .ref (xa 20 0)), (1, .int (nI (i))), (2, .int (nI (σ 11 i))), (3, .int (nI (σ 13 ((8 * i) + (ordr σ i 0)))))] := lv_sub hl [1, 2, 3, 0] rfl
    refine lv_iconst (v := nI (1)) hx hb dX5_ownerOf_31 (by decide +kernel) ?_
    refine lv_istore (lv' := [(4, .int (nI (1))), (0, .ref (xa 20 0)), (1, .int (nI (i))), (2, .int (nI (σ 11 i))), (3, .int (nI (σ 13 ((8 * i) + (ordr σ i 0)))))]) hx hb dX5_ownerOf_32 hl (by decide) rfl (fun ls hl => ?_)
    have hl : lv_has ls 9 [(0, .ref (xa 20 0)), (1, .int (nI (i))), (2, .int (nI (σ 11 i))), (3, .int (nI (σ 13 ((8 * i) + (ordr σ i 0))))), (4, .int (nI (1)))] := lv_sub hl [1, 2, 3, 4, 0] rfl
    refine x_loop (X := Nat × Nat) (I := fun n xv H locs ls => n = σ 11 i - xv.2 ∧ xW D sa A s xa (mG G0 D xa σ ρl1 la) H locs ∧ lv_has ls 9 [(0, .ref (xa 20 0)), (1, .int (nI (i))), (2, .int (nI (σ 11 i))), (3, .int (nI (xv.1))), (4, .int (nI (xv.2)))] ∧ (ttl σ i (ordr σ i) (σ 11 i) (xv.2 - 1) xv.1) ∧ (1 ≤ xv.2) ∧ (xv.2 ≤ σ 11 i) ∧ (xv.1 < σ 5 0)) (hd := 34) ?_ (n := _) (x := (σ 13 ((8 * i) + ordr σ i 0), 1)) ⟨rfl, hW, hl, rfl, by (try dsimp only); omega, by (try dsimp only); omega, (hst _ (ordr_lt (by omega))).1⟩
    rintro n ⟨t, k⟩ H locs ls ⟨hn, hW, hl, ht, hk1, hk2, htp⟩ ih34
    try dsimp only at hn hW hl ht hk1 hk2 htp
    refine lv_iload hx hb dX5_ownerOf_34 (lv_at hl 4 rfl) ?_
    refine lv_iload_n hx hb dX5_ownerOf_36 rfl (lv_at hl 2 rfl) ?_
    refine lv_icmp_ge (tgt := 225) hx hb dX5_ownerOf_37 (by decide) (fun c_37 => ?_) (fun c_37 => ?_)
    · -- ge taken
      have c_37 := Int32.le_iff_toInt_le.mp c_37
      rw [nI_toInt (n := k) (by omega)] at c_37
      rw [nI_toInt (n := σ 11 i) (by omega)] at c_37
      refine lv_iload_n hx hb dX5_ownerOf_225 rfl (lv_at hl 3 rfl) ?_
      refine lv_iconst (v := -1) hx hb dX5_ownerOf_226 (by decide +kernel) ?_
      refine lv_icmp_eq (tgt := 239) hx hb dX5_ownerOf_227 (by decide) (fun c_227 => ?_) (fun c_227 => ?_)
      · -- eq taken
        have c_227t := congrArg Int32.toInt c_227
        rw [nI_toInt (n := t) (by omega)] at c_227t
        rw [x_tm1] at c_227t
        exact absurd c_227t (by omega)
      · -- eq not
        have c_227t : ¬ (nI (t)).toInt = ((-1 : Int32)).toInt := fun h => c_227 (Int32.toInt_inj.mp h)
        rw [nI_toInt (n := t) (by omega)] at c_227t
        rw [x_tm1] at c_227t
        refine lv_aload_n hx hb dX5_ownerOf_230 rfl (lv_at hl 0 rfl) ?_
        refine m_get hx hb hts hin5 hown hW 2 (by decide) rfl (hts (.fieldLink RX5 17 "RestitutoryModel" "dead" "[Z") (by decide +kernel)) (v := .ref (xa 20 2)) rfl dX5_ownerOf_231 ?_
        refine lv_iload_n hx hb dX5_ownerOf_234 rfl (lv_at hl 3 rfl) ?_
        refine m_zld hx hb hW 2 12 (by unfold mArr; decide) rfl rfl (t) (by omega) (v := σ 2 t) rfl dX5_ownerOf_235 ?_
        have b_235 := hB 2 (t)
        refine lv_if_ne (tgt := 243) hx hb dX5_ownerOf_236 (by decide) (fun c_236 => ?_) (fun c_236 => ?_)
        · -- ne taken
          have c_236 : ¬ (σ 2 t = 0) := fun h_ => c_236 ((x_eqZ (a := σ 2 t) (by omega)).mpr h_)
          refine lv_aload_n hx hb dX5_ownerOf_243 rfl (lv_at hl 0 rfl) ?_
          refine lv_iload_n hx hb dX5_ownerOf_244 rfl (lv_at hl 3 rfl) ?_
          refine xv_i (As := [.int (nI (t))]) (rest := []) ⟨hx, hb, hml, hown, hts⟩ (c_X5_findsHeir l D sa xa G0 σ ρl1 la hg t (by omega)) (cwV 1 hts gX5_ownerOf_X5_findsHeir rfl rfl rfl (by decide +kernel) ⟨Nat.le_of_ble_eq_true rfl, Nat.le_of_ble_eq_true rfl⟩) hW (mG_obj _ _ _ _ _ _) rfl rfl rfl rfl hl.1 (Nat.le_of_ble_eq_true rfl) dX5_ownerOf_245 ⟨Nat.le_of_ble_eq_true rfl, Nat.le_of_ble_eq_true rfl⟩ (fun r_245 xa1 G1 H locs hp hW => ?_)
          obtain ⟨hu, hr_245⟩ := hp
          cases hu
          exact xe_i hx hb hr rfl hlocks hW ⟨ρl1, rfl, fh σ 3 t, hr_245, Or.inr ⟨by omega, t, by rw [show σ 11 i - 1 = k - 1 by omega]; exact ht, by unfold lif; rw [if_neg c_236]⟩⟩ (Nat.le_refl _) (Nat.le_refl _) dX5_ownerOf_248
        · -- ne not
          have c_236 := (x_eqZ (a := σ 2 t) (by omega)).mp c_236
          refine lv_iload_n hx hb dX5_ownerOf_239 rfl (lv_at hl 3 rfl) ?_
          refine lv_goto (tgt := 248) hx hb dX5_ownerOf_240 (by decide) ?_
          exact xe_i hx hb hr rfl hlocks hW ⟨ρl1, rfl, some t, rfl, Or.inr ⟨by omega, t, by rw [show σ 11 i - 1 = k - 1 by omega]; exact ht, by unfold lif; rw [if_pos c_236]⟩⟩ (Nat.le_refl _) (Nat.le_refl _) dX5_ownerOf_248
    · -- ge not
      have c_37 : ¬ ((nI (σ 11 i)).toInt ≤ (nI (k)).toInt) := fun h => c_37 (Int32.le_iff_toInt_le.mpr h)
      rw [nI_toInt (n := k) (by omega)] at c_37
      rw [nI_toInt (n := σ 11 i) (by omega)] at c_37
      refine lv_bipush (v := nI (8)) hx hb dX5_ownerOf_40 (by decide +kernel) ?_
      refine lv_iload_n hx hb dX5_ownerOf_42 rfl (lv_at hl 1 rfl) ?_
      refine lv_imul hx hb dX5_ownerOf_43 ?_
      rw [pk_mul]
      refine lv_aload_n hx hb dX5_ownerOf_44 rfl (lv_at hl 0 rfl) ?_
      refine m_get hx hb hts hin5 hown hW 19 (by decide) rfl (hts (.fieldLink RX5 60 "RestitutoryModel" "order" "[I") (by decide +kernel)) (v := .ref (xa 20 19)) rfl dX5_ownerOf_45 ?_
      refine lv_iload hx hb dX5_ownerOf_48 (lv_at hl 4 rfl) ?_
      refine m_old hx hb hW (k) (by omega) (v := ordr σ i k) (hoρl1 _ (by omega)) dX5_ownerOf_50 ?_
      have o_50 := ordr_lt (σ := σ) (i := i) (q := k) (by omega)
      refine lv_iadd hx hb dX5_ownerOf_51 ?_
      rw [nI_add]
      have hsa := hst _ o_50
      refine lv_istore (lv' := [(5, .int (nI ((8 * i) + (ordr σ i k)))), (0, .ref (xa 20 0)), (1, .int (nI (i))), (2, .int (nI (σ 11 i))), (3, .int (nI (t))), (4, .int (nI (k)))]) hx hb dX5_ownerOf_52 hl (by decide) rfl (fun ls hl => ?_)
      have hl : lv_has ls 9 [(0, .ref (xa 20 0)), (1, .int (nI (i))), (2, .int (nI (σ 11 i))), (3, .int (nI (t))), (4, .int (nI (k))), (5, .int (nI ((8 * i) + (ordr σ i k))))] := lv_sub hl [1, 2, 3, 4, 5, 0] rfl
      refine lv_iload hx hb dX5_ownerOf_54 (lv_at hl 4 rfl) ?_
      refine lv_iconst (v := nI (1)) hx hb dX5_ownerOf_56 (by decide +kernel) ?_
      refine lv_iadd hx hb dX5_ownerOf_57 ?_
      rw [nI_add]
      refine lv_iload_n hx hb dX5_ownerOf_58 rfl (lv_at hl 2 rfl) ?_
      refine lv_icmp_ge (tgt := 84) hx hb dX5_ownerOf_59 (by decide) (fun c_59 => ?_) (fun c_59 => ?_)
      · -- ge taken
        have c_59 := Int32.le_iff_toInt_le.mp c_59
        rw [nI_toInt (n := k + 1) (by omega)] at c_59
        rw [nI_toInt (n := σ 11 i) (by omega)] at c_59
        refine lv_aload_n hx hb dX5_ownerOf_84 rfl (lv_at hl 0 rfl) ?_
        refine m_get hx hb hts hin5 hown hW 0 (by decide) rfl (hts (.fieldLink RX5 7 "RestitutoryModel" "now" "I") (by decide +kernel)) (v := .int (nI (σ 0 0))) rfl dX5_ownerOf_85 ?_
        have b_85 := hB 0 0
        refine lv_istore (lv' := [(6, .int (nI (σ 0 0))), (0, .ref (xa 20 0)), (1, .int (nI (i))), (2, .int (nI (σ 11 i))), (3, .int (nI (t))), (4, .int (nI (k))), (5, .int (nI ((8 * i) + (ordr σ i k))))]) hx hb dX5_ownerOf_88 hl (by decide) rfl (fun ls hl => ?_)
        have hl : lv_has ls 9 [(0, .ref (xa 20 0)), (1, .int (nI (i))), (2, .int (nI (σ 11 i))), (3, .int (nI (t))), (4, .int (nI (k))), (5, .int (nI ((8 * i) + (ordr σ i k)))), (6, .int (nI (σ 0 0)))] := lv_sub hl [1, 2, 3, 4, 5, 6, 0] rfl
        refine x_joinW (ls := ls) (D := D) (sa := sa) (A := A) (xa := xa) (G := mG G0 D xa σ ρl1 la) (P := faiO σ i (ordr σ i) (σ 11 i) k) (mpc := 145) (rest := []) (fun H locs r_145 hW h_145 => ?_) (fun J145 => ?_)
        ·
          refine lv_istore (lv' := [(7, .int (r_145)), (0, .ref (xa 20 0)), (1, .int (nI (i))), (2, .int (nI (σ 11 i))), (3, .int (nI (t))), (4, .int (nI (k))), (5, .int (nI ((8 * i) + (ordr σ i k)))), (6, .int (nI (σ 0 0)))]) hx hb dX5_ownerOf_145 hl (by decide) rfl (fun ls hl => ?_)
          have hl : lv_has ls 9 [(0, .ref (xa 20 0)), (1, .int (nI (i))), (2, .int (nI (σ 11 i))), (3, .int (nI (t))), (4, .int (nI (k))), (5, .int (nI ((8 * i) + (ordr σ i k)))), (6, .int (nI (σ 0 0))), (7, .int (r_145))] := lv_sub hl [1, 2, 3, 4, 5, 6, 7, 0] rfl
          refine x_joinW (ls := ls) (D := D) (sa := sa) (A := A) (xa := xa) (G := mG G0 D xa σ ρl1 la) (P := t = σ 13 (8 * i + ordr σ i (k - 1)) ∨ faiO σ i (ordr σ i) (σ 11 i) k) (mpc := 180) (rest := []) (fun H locs r_180 hW h_180 => ?_) (fun J180 => ?_)
          ·
            refine lv_istore (lv' := [(8, .int (r_180)), (0, .ref (xa 20 0)), (1, .int (nI (i))), (2, .int (nI (σ 11 i))), (3, .int (nI (t))), (4, .int (nI (k))), (5, .int (nI ((8 * i) + (ordr σ i k)))), (6, .int (nI (σ 0 0))), (7, .int (r_145))]) hx hb dX5_ownerOf_180 hl (by decide) rfl (fun ls hl => ?_)
            have hl : lv_has ls 9 [(0, .ref (xa 20 0)), (1, .int (nI (i))), (2, .int (nI (σ 11 i))), (3, .int (nI (t))), (4, .int (nI (k))), (5, .int (nI ((8 * i) + (ordr σ i k)))), (6, .int (nI (σ 0 0))), (7, .int (r_145)), (8, .int (r_180))] := lv_sub hl [1, 2, 3, 4, 5, 6, 7, 8, 0] rfl
            refine lv_aload_n hx hb dX5_ownerOf_182 rfl (lv_at hl 0 rfl) ?_
            refine m_get hx hb hts hin5 hown hW 18 (by decide) rfl (hts (.fieldLink RX5 57 "RestitutoryModel" "settled" "[Z") (by decide +kernel)) (v := .ref (xa 20 18)) rfl dX5_ownerOf_183 ?_
            refine lv_iload hx hb dX5_ownerOf_186 (lv_at hl 5 rfl) ?_
            refine m_zld hx hb hW 18 80 (by unfold mArr; decide) rfl rfl ((8 * i) + (ordr σ i k)) (by omega) (v := σ 18 ((8 * i) + (ordr σ i k))) rfl dX5_ownerOf_188 ?_
            have b_188 := hB 18 ((8 * i) + (ordr σ i k))
            refine lv_if_ne (tgt := 207) hx hb dX5_ownerOf_189 (by decide) (fun c_189 => ?_) (fun c_189 => ?_)
            · -- ne taken
              have c_189 : ¬ (σ 18 ((8 * i) + (ordr σ i k)) = 0) := fun h_ => c_189 ((x_eqZ (a := σ 18 ((8 * i) + (ordr σ i k))) (by omega)).mpr h_)
              refine lv_aload_n hx hb dX5_ownerOf_207 rfl (lv_at hl 0 rfl) ?_
              refine m_get hx hb hts hin5 hown hW 13 (by decide) rfl (hts (.fieldLink RX5 42 "RestitutoryModel" "parties" "[I") (by decide +kernel)) (v := .ref (xa 20 13)) rfl dX5_ownerOf_208 ?_
              refine lv_iload hx hb dX5_ownerOf_211 (lv_at hl 5 rfl) ?_
              refine m_ild hx hb hW 13 80 (by unfold mArr; decide) rfl rfl ((8 * i) + (ordr σ i k)) (by omega) (v := σ 13 ((8 * i) + (ordr σ i k))) rfl dX5_ownerOf_213 ?_
              have b_213 := hB 13 ((8 * i) + (ordr σ i k))
              refine lv_goto (tgt := 218) hx hb dX5_ownerOf_214 (by decide) ?_
              refine lv_istore_n (lv' := [(3, .int (nI (σ 13 ((8 * i) + (ordr σ i k))))), (0, .ref (xa 20 0)), (1, .int (nI (i))), (2, .int (nI (σ 11 i))), (4, .int (nI (k))), (5, .int (nI ((8 * i) + (ordr σ i k)))), (6, .int (nI (σ 0 0))), (7, .int (r_145)), (8, .int (r_180))]) hx hb dX5_ownerOf_218 rfl hl (by decide) rfl (fun ls hl => ?_)
              have hl : lv_has ls 9 [(0, .ref (xa 20 0)), (1, .int (nI (i))), (2, .int (nI (σ 11 i))), (3, .int (nI (σ 13 ((8 * i) + (ordr σ i k))))), (4, .int (nI (k))), (5, .int (nI ((8 * i) + (ordr σ i k)))), (6, .int (nI (σ 0 0))), (7, .int (r_145)), (8, .int (r_180))] := lv_sub hl [1, 2, 3, 0, 4, 5, 6, 7, 8] rfl
              refine lv_iinc (v := nI (k + 1)) (lv' := [(4, .int (nI (k + 1))), (0, .ref (xa 20 0)), (1, .int (nI (i))), (2, .int (nI (σ 11 i))), (3, .int (nI (σ 13 ((8 * i) + (ordr σ i k))))), (5, .int (nI ((8 * i) + (ordr σ i k)))), (6, .int (nI (σ 0 0))), (7, .int (r_145)), (8, .int (r_180))]) hx hb dX5_ownerOf_219 hl (k := 4) rfl (x_inc k 1 rfl) (by decide) rfl (fun ls hl => ?_)
              have hl : lv_has ls 9 [(0, .ref (xa 20 0)), (1, .int (nI (i))), (2, .int (nI (σ 11 i))), (3, .int (nI (σ 13 ((8 * i) + (ordr σ i k))))), (4, .int (nI (k + 1))), (5, .int (nI ((8 * i) + (ordr σ i k)))), (6, .int (nI (σ 0 0))), (7, .int (r_145)), (8, .int (r_180))] := lv_sub hl [1, 2, 3, 4, 0, 5, 6, 7, 8] rfl
              refine lv_goto (tgt := 34) hx hb dX5_ownerOf_222 (by decide) ?_
              have hnext : ttl σ i (ordr σ i) (σ 11 i) (k + 1 - 1) (σ 13 ((8 * i) + (ordr σ i k))) := by
                obtain ⟨k0, rfl⟩ : ∃ k0, k = k0 + 1 := ⟨k - 1, by omega⟩
                exact ⟨t, ht, Or.inl ⟨Or.inl (by omega), rfl⟩⟩
              exact ih34 (σ 11 i - (k + 1)) (σ 13 ((8 * i) + (ordr σ i k)), k + 1) _ _ _ (by omega) ⟨rfl, hW, lv_sub hl [0, 1, 2, 3, 4] rfl, hnext, by (try dsimp only); omega, by (try dsimp only); omega, (hst _ o_50).1⟩
            · -- ne not
              have c_189 := (x_eqZ (a := σ 18 ((8 * i) + (ordr σ i k))) (by omega)).mp c_189
              refine lv_aload_n hx hb dX5_ownerOf_192 rfl (lv_at hl 0 rfl) ?_
              refine lv_iload_n hx hb dX5_ownerOf_193 rfl (lv_at hl 1 rfl) ?_
              refine lv_iload hx hb dX5_ownerOf_194 (lv_at hl 4 rfl) ?_
              refine xv_i (As := [.int (nI (i)), .int (nI (k))]) (rest := []) ⟨hx, hb, hml, hown, hts⟩ (c_X5_loses l D sa xa G0 σ ρl1 la hg i k (by omega) (by omega) hoρl1) (cwV 2 hts gX5_ownerOf_X5_loses rfl rfl rfl (by decide +kernel) ⟨Nat.le_of_ble_eq_true rfl, Nat.le_of_ble_eq_true rfl⟩) hW (mG_obj _ _ _ _ _ _) rfl rfl rfl rfl hl.1 (Nat.le_of_ble_eq_true rfl) dX5_ownerOf_196 ⟨Nat.le_of_ble_eq_true rfl, Nat.le_of_ble_eq_true rfl⟩ (fun r_196 xa1 G1 H locs hp hW => ?_)
              obtain ⟨hu, hr_196⟩ := hp
              cases hu
              refine lv_if_ne (tgt := 217) hx hb dX5_ownerOf_199 (by decide) (fun c_199 => ?_) (fun c_199 => ?_)
              · -- ne taken
                have c_199 := hr_196.t c_199
                refine lv_iload_n hx hb dX5_ownerOf_217 rfl (lv_at hl 3 rfl) ?_
                refine lv_istore_n (lv' := [(3, .int (nI (t))), (0, .ref (xa 20 0)), (1, .int (nI (i))), (2, .int (nI (σ 11 i))), (4, .int (nI (k))), (5, .int (nI ((8 * i) + (ordr σ i k)))), (6, .int (nI (σ 0 0))), (7, .int (r_145)), (8, .int (r_180))]) hx hb dX5_ownerOf_218 rfl hl (by decide) rfl (fun ls hl => ?_)
                have hl : lv_has ls 9 [(0, .ref (xa 20 0)), (1, .int (nI (i))), (2, .int (nI (σ 11 i))), (3, .int (nI (t))), (4, .int (nI (k))), (5, .int (nI ((8 * i) + (ordr σ i k)))), (6, .int (nI (σ 0 0))), (7, .int (r_145)), (8, .int (r_180))] := lv_sub hl [1, 2, 3, 0, 4, 5, 6, 7, 8] rfl
                refine lv_iinc (v := nI (k + 1)) (lv' := [(4, .int (nI (k + 1))), (0, .ref (xa 20 0)), (1, .int (nI (i))), (2, .int (nI (σ 11 i))), (3, .int (nI (t))), (5, .int (nI ((8 * i) + (ordr σ i k)))), (6, .int (nI (σ 0 0))), (7, .int (r_145)), (8, .int (r_180))]) hx hb dX5_ownerOf_219 hl (k := 4) rfl (x_inc k 1 rfl) (by decide) rfl (fun ls hl => ?_)
                have hl : lv_has ls 9 [(0, .ref (xa 20 0)), (1, .int (nI (i))), (2, .int (nI (σ 11 i))), (3, .int (nI (t))), (4, .int (nI (k + 1))), (5, .int (nI ((8 * i) + (ordr σ i k)))), (6, .int (nI (σ 0 0))), (7, .int (r_145)), (8, .int (r_180))] := lv_sub hl [1, 2, 3, 4, 0, 5, 6, 7, 8] rfl
                refine lv_goto (tgt := 34) hx hb dX5_ownerOf_222 (by decide) ?_
                have hnext : ttl σ i (ordr σ i) (σ 11 i) (k + 1 - 1) (t) := by
                  obtain ⟨k0, rfl⟩ : ∃ k0, k = k0 + 1 := ⟨k - 1, by omega⟩
                  exact ⟨t, ht, Or.inr ⟨fun h => h.elim (fun h1 => by omega) (fun h1 => h1.1 c_199), rfl⟩⟩
                exact ih34 (σ 11 i - (k + 1)) (t, k + 1) _ _ _ (by omega) ⟨rfl, hW, lv_sub hl [0, 1, 2, 3, 4] rfl, hnext, by (try dsimp only); omega, by (try dsimp only); omega, htp⟩
              · -- ne not
                have c_199 := hr_196.f c_199
                refine lv_iload hx hb dX5_ownerOf_202 (lv_at hl 8 rfl) ?_
                refine lv_if_eq (tgt := 217) hx hb dX5_ownerOf_204 (by decide) (fun c_204 => ?_) (fun c_204 => ?_)
                · -- eq taken
                  have c_204 := h_180.f c_204
                  refine lv_iload_n hx hb dX5_ownerOf_217 rfl (lv_at hl 3 rfl) ?_
                  refine lv_istore_n (lv' := [(3, .int (nI (t))), (0, .ref (xa 20 0)), (1, .int (nI (i))), (2, .int (nI (σ 11 i))), (4, .int (nI (k))), (5, .int (nI ((8 * i) + (ordr σ i k)))), (6, .int (nI (σ 0 0))), (7, .int (r_145)), (8, .int (r_180))]) hx hb dX5_ownerOf_218 rfl hl (by decide) rfl (fun ls hl => ?_)
                  have hl : lv_has ls 9 [(0, .ref (xa 20 0)), (1, .int (nI (i))), (2, .int (nI (σ 11 i))), (3, .int (nI (t))), (4, .int (nI (k))), (5, .int (nI ((8 * i) + (ordr σ i k)))), (6, .int (nI (σ 0 0))), (7, .int (r_145)), (8, .int (r_180))] := lv_sub hl [1, 2, 3, 0, 4, 5, 6, 7, 8] rfl
                  refine lv_iinc (v := nI (k + 1)) (lv' := [(4, .int (nI (k + 1))), (0, .ref (xa 20 0)), (1, .int (nI (i))), (2, .int (nI (σ 11 i))), (3, .int (nI (t))), (5, .int (nI ((8 * i) + (ordr σ i k)))), (6, .int (nI (σ 0 0))), (7, .int (r_145)), (8, .int (r_180))]) hx hb dX5_ownerOf_219 hl (k := 4) rfl (x_inc k 1 rfl) (by decide) rfl (fun ls hl => ?_)
                  have hl : lv_has ls 9 [(0, .ref (xa 20 0)), (1, .int (nI (i))), (2, .int (nI (σ 11 i))), (3, .int (nI (t))), (4, .int (nI (k + 1))), (5, .int (nI ((8 * i) + (ordr σ i k)))), (6, .int (nI (σ 0 0))), (7, .int (r_145)), (8, .int (r_180))] := lv_sub hl [1, 2, 3, 4, 0, 5, 6, 7, 8] rfl
                  refine lv_goto (tgt := 34) hx hb dX5_ownerOf_222 (by decide) ?_
                  have hnext : ttl σ i (ordr σ i) (σ 11 i) (k + 1 - 1) (t) := by
                    obtain ⟨k0, rfl⟩ : ∃ k0, k = k0 + 1 := ⟨k - 1, by omega⟩
                    exact ⟨t, ht, Or.inr ⟨fun h => h.elim (fun h1 => by omega) (fun h1 => c_204 h1.2), rfl⟩⟩
                  exact ih34 (σ 11 i - (k + 1)) (t, k + 1) _ _ _ (by omega) ⟨rfl, hW, lv_sub hl [0, 1, 2, 3, 4] rfl, hnext, by (try dsimp only); omega, by (try dsimp only); omega, htp⟩
                · -- eq not
                  have c_204 := h_180.t c_204
                  refine lv_aload_n hx hb dX5_ownerOf_207 rfl (lv_at hl 0 rfl) ?_
                  refine m_get hx hb hts hin5 hown hW 13 (by decide) rfl (hts (.fieldLink RX5 42 "RestitutoryModel" "parties" "[I") (by decide +kernel)) (v := .ref (xa 20 13)) rfl dX5_ownerOf_208 ?_
                  refine lv_iload hx hb dX5_ownerOf_211 (lv_at hl 5 rfl) ?_
                  refine m_ild hx hb hW 13 80 (by unfold mArr; decide) rfl rfl ((8 * i) + (ordr σ i k)) (by omega) (v := σ 13 ((8 * i) + (ordr σ i k))) rfl dX5_ownerOf_213 ?_
                  have b_213 := hB 13 ((8 * i) + (ordr σ i k))
                  refine lv_goto (tgt := 218) hx hb dX5_ownerOf_214 (by decide) ?_
                  refine lv_istore_n (lv' := [(3, .int (nI (σ 13 ((8 * i) + (ordr σ i k))))), (0, .ref (xa 20 0)), (1, .int (nI (i))), (2, .int (nI (σ 11 i))), (4, .int (nI (k))), (5, .int (nI ((8 * i) + (ordr σ i k)))), (6, .int (nI (σ 0 0))), (7, .int (r_145)), (8, .int (r_180))]) hx hb dX5_ownerOf_218 rfl hl (by decide) rfl (fun ls hl => ?_)
                  have hl : lv_has ls 9 [(0, .ref (xa 20 0)), (1, .int (nI (i))), (2, .int (nI (σ 11 i))), (3, .int (nI (σ 13 ((8 * i) + (ordr σ i k))))), (4, .int (nI (k))), (5, .int (nI ((8 * i) + (ordr σ i k)))), (6, .int (nI (σ 0 0))), (7, .int (r_145)), (8, .int (r_180))] := lv_sub hl [1, 2, 3, 0, 4, 5, 6, 7, 8] rfl
                  refine lv_iinc (v := nI (k + 1)) (lv' := [(4, .int (nI (k + 1))), (0, .ref (xa 20 0)), (1, .int (nI (i))), (2, .int (nI (σ 11 i))), (3, .int (nI (σ 13 ((8 * i) + (ordr σ i k))))), (5, .int (nI ((8 * i) + (ordr σ i k)))), (6, .int (nI (σ 0 0))), (7, .int (r_145)), (8, .int (r_180))]) hx hb dX5_ownerOf_219 hl (k := 4) rfl (x_inc k 1 rfl) (by decide) rfl (fun ls hl => ?_)
                  have hl : lv_has ls 9 [(0, .ref (xa 20 0)), (1, .int (nI (i))), (2, .int (nI (σ 11 i))), (3, .int (nI (σ 13 ((8 * i) + (ordr σ i k))))), (4, .int (nI (k + 1))), (5, .int (nI ((8 * i) + (ordr σ i k)))), (6, .int (nI (σ 0 0))), (7, .int (r_145)), (8, .int (r_180))] := lv_sub hl [1, 2, 3, 4, 0, 5, 6, 7, 8] rfl
                  refine lv_goto (tgt := 34) hx hb dX5_ownerOf_222 (by decide) ?_
                  have hnext : ttl σ i (ordr σ i) (σ 11 i) (k + 1 - 1) (σ 13 ((8 * i) + (ordr σ i k))) := by
                    obtain ⟨k0, rfl⟩ : ∃ k0, k = k0 + 1 := ⟨k - 1, by omega⟩
                    exact ⟨t, ht, Or.inl ⟨Or.inr ⟨c_199, c_204⟩, rfl⟩⟩
                  exact ih34 (σ 11 i - (k + 1)) (σ 13 ((8 * i) + (ordr σ i k)), k + 1) _ _ _ (by omega) ⟨rfl, hW, lv_sub hl [0, 1, 2, 3, 4] rfl, hnext, by (try dsimp only); omega, by (try dsimp only); omega, (hst _ o_50).1⟩
          ·
            refine lv_iload_n hx hb dX5_ownerOf_147 rfl (lv_at hl 3 rfl) ?_
            refine lv_aload_n hx hb dX5_ownerOf_148 rfl (lv_at hl 0 rfl) ?_
            refine m_get hx hb hts hin5 hown hW 13 (by decide) rfl (hts (.fieldLink RX5 42 "RestitutoryModel" "parties" "[I") (by decide +kernel)) (v := .ref (xa 20 13)) rfl dX5_ownerOf_149 ?_
            refine lv_bipush (v := nI (8)) hx hb dX5_ownerOf_152 (by decide +kernel) ?_
            refine lv_iload_n hx hb dX5_ownerOf_154 rfl (lv_at hl 1 rfl) ?_
            refine lv_imul hx hb dX5_ownerOf_155 ?_
            rw [pk_mul]
            refine lv_aload_n hx hb dX5_ownerOf_156 rfl (lv_at hl 0 rfl) ?_
            refine m_get hx hb hts hin5 hown hW 19 (by decide) rfl (hts (.fieldLink RX5 60 "RestitutoryModel" "order" "[I") (by decide +kernel)) (v := .ref (xa 20 19)) rfl dX5_ownerOf_157 ?_
            refine lv_iload hx hb dX5_ownerOf_160 (lv_at hl 4 rfl) ?_
            refine lv_iconst (v := nI (1)) hx hb dX5_ownerOf_162 (by decide +kernel) ?_
            refine lv_isub hx hb dX5_ownerOf_163 ?_
            rw [pk_sub (a := k) (b := 1) (by omega)]
            refine m_old hx hb hW (k - 1) (by omega) (v := ordr σ i (k - 1)) (hoρl1 _ (by omega)) dX5_ownerOf_164 ?_
            have o_164 := ordr_lt (σ := σ) (i := i) (q := k - 1) (by omega)
            refine lv_iadd hx hb dX5_ownerOf_165 ?_
            rw [nI_add]
            refine m_ild hx hb hW 13 80 (by unfold mArr; decide) rfl rfl ((8 * i) + (ordr σ i (k - 1))) (by omega) (v := σ 13 ((8 * i) + (ordr σ i (k - 1)))) rfl dX5_ownerOf_166 ?_
            have b_166 := hB 13 ((8 * i) + (ordr σ i (k - 1)))
            refine lv_icmp_eq (tgt := 175) hx hb dX5_ownerOf_167 (by decide) (fun c_167 => ?_) (fun c_167 => ?_)
            · -- eq taken
              have c_167 := (x_eqN (a := t) (b := σ 13 ((8 * i) + (ordr σ i (k - 1)))) (by omega) (by omega)).mp c_167
              refine lv_iconst (v := nI (1)) hx hb dX5_ownerOf_175 (by decide +kernel) ?_
              refine lv_goto (tgt := 180) hx hb dX5_ownerOf_176 (by decide) ?_
              exact J180 _ _ _ hW (tv.one (by first | exact Or.inl c_167 | exact Or.inr c_172))
            · -- eq not
              have c_167 : ¬ (t = σ 13 ((8 * i) + (ordr σ i (k - 1)))) := fun h_ => c_167 ((x_eqN (a := t) (b := σ 13 ((8 * i) + (ordr σ i (k - 1)))) (by omega) (by omega)).mpr h_)
              refine lv_iload hx hb dX5_ownerOf_170 (lv_at hl 7 rfl) ?_
              refine lv_if_eq (tgt := 179) hx hb dX5_ownerOf_172 (by decide) (fun c_172 => ?_) (fun c_172 => ?_)
              · -- eq taken
                have c_172 := h_145.f c_172
                refine lv_iconst (v := nI (0)) hx hb dX5_ownerOf_179 (by decide +kernel) ?_
                exact J180 _ _ _ hW (tv.zero (fun h => h.elim (fun h1 => c_167 h1) (fun h1 => c_172 h1)))
              · -- eq not
                have c_172 := h_145.t c_172
                refine lv_iconst (v := nI (1)) hx hb dX5_ownerOf_175 (by decide +kernel) ?_
                refine lv_goto (tgt := 180) hx hb dX5_ownerOf_176 (by decide) ?_
                exact J180 _ _ _ hW (tv.one (by first | exact Or.inl c_167 | exact Or.inr c_172))
        ·
          refine lv_aload_n hx hb dX5_ownerOf_90 rfl (lv_at hl 0 rfl) ?_
          refine m_get hx hb hts hin5 hown hW 14 (by decide) rfl (hts (.fieldLink RX5 45 "RestitutoryModel" "kinds" "[I") (by decide +kernel)) (v := .ref (xa 20 14)) rfl dX5_ownerOf_91 ?_
          refine lv_iload hx hb dX5_ownerOf_94 (lv_at hl 5 rfl) ?_
          refine m_ild hx hb hW 14 80 (by unfold mArr; decide) rfl rfl ((8 * i) + (ordr σ i k)) (by omega) (v := σ 14 ((8 * i) + (ordr σ i k))) rfl dX5_ownerOf_96 ?_
          have b_96 := hB 14 ((8 * i) + (ordr σ i k))
          refine lv_if_ne (tgt := 144) hx hb dX5_ownerOf_97 (by decide) (fun c_97 => ?_) (fun c_97 => ?_)
          · -- ne taken
            have c_97 : ¬ (σ 14 ((8 * i) + (ordr σ i k)) = 0) := fun h_ => c_97 ((x_eqZ (a := σ 14 ((8 * i) + (ordr σ i k))) (by omega)).mpr h_)
            refine lv_iconst (v := nI (0)) hx hb dX5_ownerOf_144 (by decide +kernel) ?_
            exact J145 _ _ _ hW (tv.zero (by rintro ⟨h1, h2, h3⟩; unfold untO at h3; rw [if_neg (by omega)] at h3; first | exact c_97 h1 | omega | (rw [hsub] at c_137; omega)))
          · -- ne not
            have c_97 := (x_eqZ (a := σ 14 ((8 * i) + (ordr σ i k))) (by omega)).mp c_97
            refine lv_aload_n hx hb dX5_ownerOf_100 rfl (lv_at hl 0 rfl) ?_
            refine m_get hx hb hts hin5 hown hW 8 (by decide) rfl (hts (.fieldLink RX5 30 "RestitutoryModel" "faiths" "[I") (by decide +kernel)) (v := .ref (xa 20 8)) rfl dX5_ownerOf_101 ?_
            refine lv_aload_n hx hb dX5_ownerOf_104 rfl (lv_at hl 0 rfl) ?_
            refine m_get hx hb hts hin5 hown hW 15 (by decide) rfl (hts (.fieldLink RX5 48 "RestitutoryModel" "lands" "[I") (by decide +kernel)) (v := .ref (xa 20 15)) rfl dX5_ownerOf_105 ?_
            refine lv_iload hx hb dX5_ownerOf_108 (lv_at hl 5 rfl) ?_
            refine m_ild hx hb hW 15 80 (by unfold mArr; decide) rfl rfl ((8 * i) + (ordr σ i k)) (by omega) (v := σ 15 ((8 * i) + (ordr σ i k))) rfl dX5_ownerOf_110 ?_
            have b_110 := hB 15 ((8 * i) + (ordr σ i k))
            refine m_ild hx hb hW 8 5 (by unfold mArr; decide) rfl rfl (σ 15 ((8 * i) + (ordr σ i k))) (by omega) (v := σ 8 (σ 15 ((8 * i) + (ordr σ i k)))) rfl dX5_ownerOf_111 ?_
            have b_111 := hB 8 (σ 15 ((8 * i) + (ordr σ i k)))
            refine lv_if_le (tgt := 144) hx hb dX5_ownerOf_112 (by decide) (fun c_112 => ?_) (fun c_112 => ?_)
            · -- le taken
              have c_112 := Int32.le_iff_toInt_le.mp c_112
              rw [nI_toInt (n := σ 8 (σ 15 ((8 * i) + (ordr σ i k)))) (by omega)] at c_112
              rw [x_t0] at c_112
              refine lv_iconst (v := nI (0)) hx hb dX5_ownerOf_144 (by decide +kernel) ?_
              exact J145 _ _ _ hW (tv.zero (by rintro ⟨h1, h2, h3⟩; unfold untO at h3; rw [if_neg (by omega)] at h3; first | exact c_97 h1 | omega | (rw [hsub] at c_137; omega)))
            · -- le not
              have c_112 : ¬ ((nI (σ 8 (σ 15 ((8 * i) + (ordr σ i k))))).toInt ≤ ((0 : Int32)).toInt) := fun h => c_112 (Int32.le_iff_toInt_le.mpr h)
              rw [nI_toInt (n := σ 8 (σ 15 ((8 * i) + (ordr σ i k)))) (by omega)] at c_112
              rw [x_t0] at c_112
              refine lv_iload hx hb dX5_ownerOf_115 (lv_at hl 6 rfl) ?_
              refine lv_aload_n hx hb dX5_ownerOf_117 rfl (lv_at hl 0 rfl) ?_
              refine m_get hx hb hts hin5 hown hW 16 (by decide) rfl (hts (.fieldLink RX5 51 "RestitutoryModel" "years" "[I") (by decide +kernel)) (v := .ref (xa 20 16)) rfl dX5_ownerOf_118 ?_
              refine lv_iload hx hb dX5_ownerOf_121 (lv_at hl 5 rfl) ?_
              refine m_ild hx hb hW 16 80 (by unfold mArr; decide) rfl rfl ((8 * i) + (ordr σ i k)) (by omega) (v := σ 16 ((8 * i) + (ordr σ i k))) rfl dX5_ownerOf_123 ?_
              have b_123 := hB 16 ((8 * i) + (ordr σ i k))
              refine lv_isub hx hb dX5_ownerOf_124 ?_
              have hsub : (nI (σ 0 0) - nI (σ 16 ((8 * i) + (ordr σ i k)))).toInt = ((σ 0 0 : Nat) : Int) - (σ 16 ((8 * i) + (ordr σ i k)) : Nat) := pk_sub_toInt (by omega) (by omega)
              refine lv_aload_n hx hb dX5_ownerOf_125 rfl (lv_at hl 0 rfl) ?_
              refine m_get hx hb hts hin5 hown hW 8 (by decide) rfl (hts (.fieldLink RX5 30 "RestitutoryModel" "faiths" "[I") (by decide +kernel)) (v := .ref (xa 20 8)) rfl dX5_ownerOf_126 ?_
              refine lv_aload_n hx hb dX5_ownerOf_129 rfl (lv_at hl 0 rfl) ?_
              refine m_get hx hb hts hin5 hown hW 15 (by decide) rfl (hts (.fieldLink RX5 48 "RestitutoryModel" "lands" "[I") (by decide +kernel)) (v := .ref (xa 20 15)) rfl dX5_ownerOf_130 ?_
              refine lv_iload hx hb dX5_ownerOf_133 (lv_at hl 5 rfl) ?_
              refine m_ild hx hb hW 15 80 (by unfold mArr; decide) rfl rfl ((8 * i) + (ordr σ i k)) (by omega) (v := σ 15 ((8 * i) + (ordr σ i k))) rfl dX5_ownerOf_135 ?_
              have b_135 := hB 15 ((8 * i) + (ordr σ i k))
              refine m_ild hx hb hW 8 5 (by unfold mArr; decide) rfl rfl (σ 15 ((8 * i) + (ordr σ i k))) (by omega) (v := σ 8 (σ 15 ((8 * i) + (ordr σ i k)))) rfl dX5_ownerOf_136 ?_
              have b_136 := hB 8 (σ 15 ((8 * i) + (ordr σ i k)))
              refine lv_icmp_lt (tgt := 144) hx hb dX5_ownerOf_137 (by decide) (fun c_137 => ?_) (fun c_137 => ?_)
              · -- lt taken
                have c_137 := Int32.lt_iff_toInt_lt.mp c_137
                rw [nI_toInt (n := σ 8 (σ 15 ((8 * i) + (ordr σ i k)))) (by omega)] at c_137
                refine lv_iconst (v := nI (0)) hx hb dX5_ownerOf_144 (by decide +kernel) ?_
                exact J145 _ _ _ hW (tv.zero (by rintro ⟨h1, h2, h3⟩; unfold untO at h3; rw [if_neg (by omega)] at h3; first | exact c_97 h1 | omega | (rw [hsub] at c_137; omega)))
              · -- lt not
                have c_137 : ¬ ((nI (σ 0 0) - nI (σ 16 ((8 * i) + (ordr σ i k)))).toInt < (nI (σ 8 (σ 15 ((8 * i) + (ordr σ i k))))).toInt) := fun h => c_137 (Int32.lt_iff_toInt_lt.mpr h)
                rw [nI_toInt (n := σ 8 (σ 15 ((8 * i) + (ordr σ i k)))) (by omega)] at c_137
                refine lv_iconst (v := nI (1)) hx hb dX5_ownerOf_140 (by decide +kernel) ?_
                refine lv_goto (tgt := 145) hx hb dX5_ownerOf_141 (by decide) ?_
                exact J145 _ _ _ hW (tv.one (⟨c_97, by omega, by unfold untO; rw [if_neg (by omega)]; rw [hsub] at c_137; omega⟩))
      · -- ge not
        have c_59 : ¬ ((nI (σ 11 i)).toInt ≤ (nI (k + 1)).toInt) := fun h => c_59 (Int32.le_iff_toInt_le.mpr h)
        rw [nI_toInt (n := k + 1) (by omega)] at c_59
        rw [nI_toInt (n := σ 11 i) (by omega)] at c_59
        refine lv_aload_n hx hb dX5_ownerOf_62 rfl (lv_at hl 0 rfl) ?_
        refine m_get hx hb hts hin5 hown hW 16 (by decide) rfl (hts (.fieldLink RX5 51 "RestitutoryModel" "years" "[I") (by decide +kernel)) (v := .ref (xa 20 16)) rfl dX5_ownerOf_63 ?_
        refine lv_bipush (v := nI (8)) hx hb dX5_ownerOf_66 (by decide +kernel) ?_
        refine lv_iload_n hx hb dX5_ownerOf_68 rfl (lv_at hl 1 rfl) ?_
        refine lv_imul hx hb dX5_ownerOf_69 ?_
        rw [pk_mul]
        refine lv_aload_n hx hb dX5_ownerOf_70 rfl (lv_at hl 0 rfl) ?_
        refine m_get hx hb hts hin5 hown hW 19 (by decide) rfl (hts (.fieldLink RX5 60 "RestitutoryModel" "order" "[I") (by decide +kernel)) (v := .ref (xa 20 19)) rfl dX5_ownerOf_71 ?_
        refine lv_iload hx hb dX5_ownerOf_74 (lv_at hl 4 rfl) ?_
        refine lv_iconst (v := nI (1)) hx hb dX5_ownerOf_76 (by decide +kernel) ?_
        refine lv_iadd hx hb dX5_ownerOf_77 ?_
        rw [nI_add]
        refine m_old hx hb hW (k + 1) (by omega) (v := ordr σ i (k + 1)) (hoρl1 _ (by omega)) dX5_ownerOf_78 ?_
        have o_78 := ordr_lt (σ := σ) (i := i) (q := k + 1) (by omega)
        refine lv_iadd hx hb dX5_ownerOf_79 ?_
        rw [nI_add]
        refine m_ild hx hb hW 16 80 (by unfold mArr; decide) rfl rfl ((8 * i) + (ordr σ i (k + 1))) (by omega) (v := σ 16 ((8 * i) + (ordr σ i (k + 1)))) rfl dX5_ownerOf_80 ?_
        have b_80 := hB 16 ((8 * i) + (ordr σ i (k + 1)))
        refine lv_goto (tgt := 88) hx hb dX5_ownerOf_81 (by decide) ?_
        refine lv_istore (lv' := [(6, .int (nI (σ 16 ((8 * i) + (ordr σ i (k + 1)))))), (0, .ref (xa 20 0)), (1, .int (nI (i))), (2, .int (nI (σ 11 i))), (3, .int (nI (t))), (4, .int (nI (k))), (5, .int (nI ((8 * i) + (ordr σ i k))))]) hx hb dX5_ownerOf_88 hl (by decide) rfl (fun ls hl => ?_)
        have hl : lv_has ls 9 [(0, .ref (xa 20 0)), (1, .int (nI (i))), (2, .int (nI (σ 11 i))), (3, .int (nI (t))), (4, .int (nI (k))), (5, .int (nI ((8 * i) + (ordr σ i k)))), (6, .int (nI (σ 16 ((8 * i) + (ordr σ i (k + 1))))))] := lv_sub hl [1, 2, 3, 4, 5, 6, 0] rfl
        refine x_joinW (ls := ls) (D := D) (sa := sa) (A := A) (xa := xa) (G := mG G0 D xa σ ρl1 la) (P := faiO σ i (ordr σ i) (σ 11 i) k) (mpc := 145) (rest := []) (fun H locs r_145 hW h_145 => ?_) (fun J145 => ?_)
        ·
          refine lv_istore (lv' := [(7, .int (r_145)), (0, .ref (xa 20 0)), (1, .int (nI (i))), (2, .int (nI (σ 11 i))), (3, .int (nI (t))), (4, .int (nI (k))), (5, .int (nI ((8 * i) + (ordr σ i k)))), (6, .int (nI (σ 16 ((8 * i) + (ordr σ i (k + 1))))))]) hx hb dX5_ownerOf_145 hl (by decide) rfl (fun ls hl => ?_)
          have hl : lv_has ls 9 [(0, .ref (xa 20 0)), (1, .int (nI (i))), (2, .int (nI (σ 11 i))), (3, .int (nI (t))), (4, .int (nI (k))), (5, .int (nI ((8 * i) + (ordr σ i k)))), (6, .int (nI (σ 16 ((8 * i) + (ordr σ i (k + 1)))))), (7, .int (r_145))] := lv_sub hl [1, 2, 3, 4, 5, 6, 7, 0] rfl
          refine x_joinW (ls := ls) (D := D) (sa := sa) (A := A) (xa := xa) (G := mG G0 D xa σ ρl1 la) (P := t = σ 13 (8 * i + ordr σ i (k - 1)) ∨ faiO σ i (ordr σ i) (σ 11 i) k) (mpc := 180) (rest := []) (fun H locs r_180 hW h_180 => ?_) (fun J180 => ?_)
          ·
            refine lv_istore (lv' := [(8, .int (r_180)), (0, .ref (xa 20 0)), (1, .int (nI (i))), (2, .int (nI (σ 11 i))), (3, .int (nI (t))), (4, .int (nI (k))), (5, .int (nI ((8 * i) + (ordr σ i k)))), (6, .int (nI (σ 16 ((8 * i) + (ordr σ i (k + 1)))))), (7, .int (r_145))]) hx hb dX5_ownerOf_180 hl (by decide) rfl (fun ls hl => ?_)
            have hl : lv_has ls 9 [(0, .ref (xa 20 0)), (1, .int (nI (i))), (2, .int (nI (σ 11 i))), (3, .int (nI (t))), (4, .int (nI (k))), (5, .int (nI ((8 * i) + (ordr σ i k)))), (6, .int (nI (σ 16 ((8 * i) + (ordr σ i (k + 1)))))), (7, .int (r_145)), (8, .int (r_180))] := lv_sub hl [1, 2, 3, 4, 5, 6, 7, 8, 0] rfl
            refine lv_aload_n hx hb dX5_ownerOf_182 rfl (lv_at hl 0 rfl) ?_
            refine m_get hx hb hts hin5 hown hW 18 (by decide) rfl (hts (.fieldLink RX5 57 "RestitutoryModel" "settled" "[Z") (by decide +kernel)) (v := .ref (xa 20 18)) rfl dX5_ownerOf_183 ?_
            refine lv_iload hx hb dX5_ownerOf_186 (lv_at hl 5 rfl) ?_
            refine m_zld hx hb hW 18 80 (by unfold mArr; decide) rfl rfl ((8 * i) + (ordr σ i k)) (by omega) (v := σ 18 ((8 * i) + (ordr σ i k))) rfl dX5_ownerOf_188 ?_
            have b_188 := hB 18 ((8 * i) + (ordr σ i k))
            refine lv_if_ne (tgt := 207) hx hb dX5_ownerOf_189 (by decide) (fun c_189 => ?_) (fun c_189 => ?_)
            · -- ne taken
              have c_189 : ¬ (σ 18 ((8 * i) + (ordr σ i k)) = 0) := fun h_ => c_189 ((x_eqZ (a := σ 18 ((8 * i) + (ordr σ i k))) (by omega)).mpr h_)
              refine lv_aload_n hx hb dX5_ownerOf_207 rfl (lv_at hl 0 rfl) ?_
              refine m_get hx hb hts hin5 hown hW 13 (by decide) rfl (hts (.fieldLink RX5 42 "RestitutoryModel" "parties" "[I") (by decide +kernel)) (v := .ref (xa 20 13)) rfl dX5_ownerOf_208 ?_
              refine lv_iload hx hb dX5_ownerOf_211 (lv_at hl 5 rfl) ?_
              refine m_ild hx hb hW 13 80 (by unfold mArr; decide) rfl rfl ((8 * i) + (ordr σ i k)) (by omega) (v := σ 13 ((8 * i) + (ordr σ i k))) rfl dX5_ownerOf_213 ?_
              have b_213 := hB 13 ((8 * i) + (ordr σ i k))
              refine lv_goto (tgt := 218) hx hb dX5_ownerOf_214 (by decide) ?_
              refine lv_istore_n (lv' := [(3, .int (nI (σ 13 ((8 * i) + (ordr σ i k))))), (0, .ref (xa 20 0)), (1, .int (nI (i))), (2, .int (nI (σ 11 i))), (4, .int (nI (k))), (5, .int (nI ((8 * i) + (ordr σ i k)))), (6, .int (nI (σ 16 ((8 * i) + (ordr σ i (k + 1)))))), (7, .int (r_145)), (8, .int (r_180))]) hx hb dX5_ownerOf_218 rfl hl (by decide) rfl (fun ls hl => ?_)
              have hl : lv_has ls 9 [(0, .ref (xa 20 0)), (1, .int (nI (i))), (2, .int (nI (σ 11 i))), (3, .int (nI (σ 13 ((8 * i) + (ordr σ i k))))), (4, .int (nI (k))), (5, .int (nI ((8 * i) + (ordr σ i k)))), (6, .int (nI (σ 16 ((8 * i) + (ordr σ i (k + 1)))))), (7, .int (r_145)), (8, .int (r_180))] := lv_sub hl [1, 2, 3, 0, 4, 5, 6, 7, 8] rfl
              refine lv_iinc (v := nI (k + 1)) (lv' := [(4, .int (nI (k + 1))), (0, .ref (xa 20 0)), (1, .int (nI (i))), (2, .int (nI (σ 11 i))), (3, .int (nI (σ 13 ((8 * i) + (ordr σ i k))))), (5, .int (nI ((8 * i) + (ordr σ i k)))), (6, .int (nI (σ 16 ((8 * i) + (ordr σ i (k + 1)))))), (7, .int (r_145)), (8, .int (r_180))]) hx hb dX5_ownerOf_219 hl (k := 4) rfl (x_inc k 1 rfl) (by decide) rfl (fun ls hl => ?_)
              have hl : lv_has ls 9 [(0, .ref (xa 20 0)), (1, .int (nI (i))), (2, .int (nI (σ 11 i))), (3, .int (nI (σ 13 ((8 * i) + (ordr σ i k))))), (4, .int (nI (k + 1))), (5, .int (nI ((8 * i) + (ordr σ i k)))), (6, .int (nI (σ 16 ((8 * i) + (ordr σ i (k + 1)))))), (7, .int (r_145)), (8, .int (r_180))] := lv_sub hl [1, 2, 3, 4, 0, 5, 6, 7, 8] rfl
              refine lv_goto (tgt := 34) hx hb dX5_ownerOf_222 (by decide) ?_
              have hnext : ttl σ i (ordr σ i) (σ 11 i) (k + 1 - 1) (σ 13 ((8 * i) + (ordr σ i k))) := by
                obtain ⟨k0, rfl⟩ : ∃ k0, k = k0 + 1 := ⟨k - 1, by omega⟩
                exact ⟨t, ht, Or.inl ⟨Or.inl (by omega), rfl⟩⟩
              exact ih34 (σ 11 i - (k + 1)) (σ 13 ((8 * i) + (ordr σ i k)), k + 1) _ _ _ (by omega) ⟨rfl, hW, lv_sub hl [0, 1, 2, 3, 4] rfl, hnext, by (try dsimp only); omega, by (try dsimp only); omega, (hst _ o_50).1⟩
            · -- ne not
              have c_189 := (x_eqZ (a := σ 18 ((8 * i) + (ordr σ i k))) (by omega)).mp c_189
              refine lv_aload_n hx hb dX5_ownerOf_192 rfl (lv_at hl 0 rfl) ?_
              refine lv_iload_n hx hb dX5_ownerOf_193 rfl (lv_at hl 1 rfl) ?_
              refine lv_iload hx hb dX5_ownerOf_194 (lv_at hl 4 rfl) ?_
              refine xv_i (As := [.int (nI (i)), .int (nI (k))]) (rest := []) ⟨hx, hb, hml, hown, hts⟩ (c_X5_loses l D sa xa G0 σ ρl1 la hg i k (by omega) (by omega) hoρl1) (cwV 2 hts gX5_ownerOf_X5_loses rfl rfl rfl (by decide +kernel) ⟨Nat.le_of_ble_eq_true rfl, Nat.le_of_ble_eq_true rfl⟩) hW (mG_obj _ _ _ _ _ _) rfl rfl rfl rfl hl.1 (Nat.le_of_ble_eq_true rfl) dX5_ownerOf_196 ⟨Nat.le_of_ble_eq_true rfl, Nat.le_of_ble_eq_true rfl⟩ (fun r_196 xa1 G1 H locs hp hW => ?_)
              obtain ⟨hu, hr_196⟩ := hp
              cases hu
              refine lv_if_ne (tgt := 217) hx hb dX5_ownerOf_199 (by decide) (fun c_199 => ?_) (fun c_199 => ?_)
              · -- ne taken
                have c_199 := hr_196.t c_199
                refine lv_iload_n hx hb dX5_ownerOf_217 rfl (lv_at hl 3 rfl) ?_
                refine lv_istore_n (lv' := [(3, .int (nI (t))), (0, .ref (xa 20 0)), (1, .int (nI (i))), (2, .int (nI (σ 11 i))), (4, .int (nI (k))), (5, .int (nI ((8 * i) + (ordr σ i k)))), (6, .int (nI (σ 16 ((8 * i) + (ordr σ i (k + 1)))))), (7, .int (r_145)), (8, .int (r_180))]) hx hb dX5_ownerOf_218 rfl hl (by decide) rfl (fun ls hl => ?_)
                have hl : lv_has ls 9 [(0, .ref (xa 20 0)), (1, .int (nI (i))), (2, .int (nI (σ 11 i))), (3, .int (nI (t))), (4, .int (nI (k))), (5, .int (nI ((8 * i) + (ordr σ i k)))), (6, .int (nI (σ 16 ((8 * i) + (ordr σ i (k + 1)))))), (7, .int (r_145)), (8, .int (r_180))] := lv_sub hl [1, 2, 3, 0, 4, 5, 6, 7, 8] rfl
                refine lv_iinc (v := nI (k + 1)) (lv' := [(4, .int (nI (k + 1))), (0, .ref (xa 20 0)), (1, .int (nI (i))), (2, .int (nI (σ 11 i))), (3, .int (nI (t))), (5, .int (nI ((8 * i) + (ordr σ i k)))), (6, .int (nI (σ 16 ((8 * i) + (ordr σ i (k + 1)))))), (7, .int (r_145)), (8, .int (r_180))]) hx hb dX5_ownerOf_219 hl (k := 4) rfl (x_inc k 1 rfl) (by decide) rfl (fun ls hl => ?_)
                have hl : lv_has ls 9 [(0, .ref (xa 20 0)), (1, .int (nI (i))), (2, .int (nI (σ 11 i))), (3, .int (nI (t))), (4, .int (nI (k + 1))), (5, .int (nI ((8 * i) + (ordr σ i k)))), (6, .int (nI (σ 16 ((8 * i) + (ordr σ i (k + 1)))))), (7, .int (r_145)), (8, .int (r_180))] := lv_sub hl [1, 2, 3, 4, 0, 5, 6, 7, 8] rfl
                refine lv_goto (tgt := 34) hx hb dX5_ownerOf_222 (by decide) ?_
                have hnext : ttl σ i (ordr σ i) (σ 11 i) (k + 1 - 1) (t) := by
                  obtain ⟨k0, rfl⟩ : ∃ k0, k = k0 + 1 := ⟨k - 1, by omega⟩
                  exact ⟨t, ht, Or.inr ⟨fun h => h.elim (fun h1 => by omega) (fun h1 => h1.1 c_199), rfl⟩⟩
                exact ih34 (σ 11 i - (k + 1)) (t, k + 1) _ _ _ (by omega) ⟨rfl, hW, lv_sub hl [0, 1, 2, 3, 4] rfl, hnext, by (try dsimp only); omega, by (try dsimp only); omega, htp⟩
              · -- ne not
                have c_199 := hr_196.f c_199
                refine lv_iload hx hb dX5_ownerOf_202 (lv_at hl 8 rfl) ?_
                refine lv_if_eq (tgt := 217) hx hb dX5_ownerOf_204 (by decide) (fun c_204 => ?_) (fun c_204 => ?_)
                · -- eq taken
                  have c_204 := h_180.f c_204
                  refine lv_iload_n hx hb dX5_ownerOf_217 rfl (lv_at hl 3 rfl) ?_
                  refine lv_istore_n (lv' := [(3, .int (nI (t))), (0, .ref (xa 20 0)), (1, .int (nI (i))), (2, .int (nI (σ 11 i))), (4, .int (nI (k))), (5, .int (nI ((8 * i) + (ordr σ i k)))), (6, .int (nI (σ 16 ((8 * i) + (ordr σ i (k + 1)))))), (7, .int (r_145)), (8, .int (r_180))]) hx hb dX5_ownerOf_218 rfl hl (by decide) rfl (fun ls hl => ?_)
                  have hl : lv_has ls 9 [(0, .ref (xa 20 0)), (1, .int (nI (i))), (2, .int (nI (σ 11 i))), (3, .int (nI (t))), (4, .int (nI (k))), (5, .int (nI ((8 * i) + (ordr σ i k)))), (6, .int (nI (σ 16 ((8 * i) + (ordr σ i (k + 1)))))), (7, .int (r_145)), (8, .int (r_180))] := lv_sub hl [1, 2, 3, 0, 4, 5, 6, 7, 8] rfl
                  refine lv_iinc (v := nI (k + 1)) (lv' := [(4, .int (nI (k + 1))), (0, .ref (xa 20 0)), (1, .int (nI (i))), (2, .int (nI (σ 11 i))), (3, .int (nI (t))), (5, .int (nI ((8 * i) + (ordr σ i k)))), (6, .int (nI (σ 16 ((8 * i) + (ordr σ i (k + 1)))))), (7, .int (r_145)), (8, .int (r_180))]) hx hb dX5_ownerOf_219 hl (k := 4) rfl (x_inc k 1 rfl) (by decide) rfl (fun ls hl => ?_)
                  have hl : lv_has ls 9 [(0, .ref (xa 20 0)), (1, .int (nI (i))), (2, .int (nI (σ 11 i))), (3, .int (nI (t))), (4, .int (nI (k + 1))), (5, .int (nI ((8 * i) + (ordr σ i k)))), (6, .int (nI (σ 16 ((8 * i) + (ordr σ i (k + 1)))))), (7, .int (r_145)), (8, .int (r_180))] := lv_sub hl [1, 2, 3, 4, 0, 5, 6, 7, 8] rfl
                  refine lv_goto (tgt := 34) hx hb dX5_ownerOf_222 (by decide) ?_
                  have hnext : ttl σ i (ordr σ i) (σ 11 i) (k + 1 - 1) (t) := by
                    obtain ⟨k0, rfl⟩ : ∃ k0, k = k0 + 1 := ⟨k - 1, by omega⟩
                    exact ⟨t, ht, Or.inr ⟨fun h => h.elim (fun h1 => by omega) (fun h1 => c_204 h1.2), rfl⟩⟩
                  exact ih34 (σ 11 i - (k + 1)) (t, k + 1) _ _ _ (by omega) ⟨rfl, hW, lv_sub hl [0, 1, 2, 3, 4] rfl, hnext, by (try dsimp only); omega, by (try dsimp only); omega, htp⟩
                · -- eq not
                  have c_204 := h_180.t c_204
                  refine lv_aload_n hx hb dX5_ownerOf_207 rfl (lv_at hl 0 rfl) ?_
                  refine m_get hx hb hts hin5 hown hW 13 (by decide) rfl (hts (.fieldLink RX5 42 "RestitutoryModel" "parties" "[I") (by decide +kernel)) (v := .ref (xa 20 13)) rfl dX5_ownerOf_208 ?_
                  refine lv_iload hx hb dX5_ownerOf_211 (lv_at hl 5 rfl) ?_
                  refine m_ild hx hb hW 13 80 (by unfold mArr; decide) rfl rfl ((8 * i) + (ordr σ i k)) (by omega) (v := σ 13 ((8 * i) + (ordr σ i k))) rfl dX5_ownerOf_213 ?_
                  have b_213 := hB 13 ((8 * i) + (ordr σ i k))
                  refine lv_goto (tgt := 218) hx hb dX5_ownerOf_214 (by decide) ?_
                  refine lv_istore_n (lv' := [(3, .int (nI (σ 13 ((8 * i) + (ordr σ i k))))), (0, .ref (xa 20 0)), (1, .int (nI (i))), (2, .int (nI (σ 11 i))), (4, .int (nI (k))), (5, .int (nI ((8 * i) + (ordr σ i k)))), (6, .int (nI (σ 16 ((8 * i) + (ordr σ i (k + 1)))))), (7, .int (r_145)), (8, .int (r_180))]) hx hb dX5_ownerOf_218 rfl hl (by decide) rfl (fun ls hl => ?_)
                  have hl : lv_has ls 9 [(0, .ref (xa 20 0)), (1, .int (nI (i))), (2, .int (nI (σ 11 i))), (3, .int (nI (σ 13 ((8 * i) + (ordr σ i k))))), (4, .int (nI (k))), (5, .int (nI ((8 * i) + (ordr σ i k)))), (6, .int (nI (σ 16 ((8 * i) + (ordr σ i (k + 1)))))), (7, .int (r_145)), (8, .int (r_180))] := lv_sub hl [1, 2, 3, 0, 4, 5, 6, 7, 8] rfl
                  refine lv_iinc (v := nI (k + 1)) (lv' := [(4, .int (nI (k + 1))), (0, .ref (xa 20 0)), (1, .int (nI (i))), (2, .int (nI (σ 11 i))), (3, .int (nI (σ 13 ((8 * i) + (ordr σ i k))))), (5, .int (nI ((8 * i) + (ordr σ i k)))), (6, .int (nI (σ 16 ((8 * i) + (ordr σ i (k + 1)))))), (7, .int (r_145)), (8, .int (r_180))]) hx hb dX5_ownerOf_219 hl (k := 4) rfl (x_inc k 1 rfl) (by decide) rfl (fun ls hl => ?_)
                  have hl : lv_has ls 9 [(0, .ref (xa 20 0)), (1, .int (nI (i))), (2, .int (nI (σ 11 i))), (3, .int (nI (σ 13 ((8 * i) + (ordr σ i k))))), (4, .int (nI (k + 1))), (5, .int (nI ((8 * i) + (ordr σ i k)))), (6, .int (nI (σ 16 ((8 * i) + (ordr σ i (k + 1)))))), (7, .int (r_145)), (8, .int (r_180))] := lv_sub hl [1, 2, 3, 4, 0, 5, 6, 7, 8] rfl
                  refine lv_goto (tgt := 34) hx hb dX5_ownerOf_222 (by decide) ?_
                  have hnext : ttl σ i (ordr σ i) (σ 11 i) (k + 1 - 1) (σ 13 ((8 * i) + (ordr σ i k))) := by
                    obtain ⟨k0, rfl⟩ : ∃ k0, k = k0 + 1 := ⟨k - 1, by omega⟩
                    exact ⟨t, ht, Or.inl ⟨Or.inr ⟨c_199, c_204⟩, rfl⟩⟩
                  exact ih34 (σ 11 i - (k + 1)) (σ 13 ((8 * i) + (ordr σ i k)), k + 1) _ _ _ (by omega) ⟨rfl, hW, lv_sub hl [0, 1, 2, 3, 4] rfl, hnext, by (try dsimp only); omega, by (try dsimp only); omega, (hst _ o_50).1⟩
          ·
            refine lv_iload_n hx hb dX5_ownerOf_147 rfl (lv_at hl 3 rfl) ?_
            refine lv_aload_n hx hb dX5_ownerOf_148 rfl (lv_at hl 0 rfl) ?_
            refine m_get hx hb hts hin5 hown hW 13 (by decide) rfl (hts (.fieldLink RX5 42 "RestitutoryModel" "parties" "[I") (by decide +kernel)) (v := .ref (xa 20 13)) rfl dX5_ownerOf_149 ?_
            refine lv_bipush (v := nI (8)) hx hb dX5_ownerOf_152 (by decide +kernel) ?_
            refine lv_iload_n hx hb dX5_ownerOf_154 rfl (lv_at hl 1 rfl) ?_
            refine lv_imul hx hb dX5_ownerOf_155 ?_
            rw [pk_mul]
            refine lv_aload_n hx hb dX5_ownerOf_156 rfl (lv_at hl 0 rfl) ?_
            refine m_get hx hb hts hin5 hown hW 19 (by decide) rfl (hts (.fieldLink RX5 60 "RestitutoryModel" "order" "[I") (by decide +kernel)) (v := .ref (xa 20 19)) rfl dX5_ownerOf_157 ?_
            refine lv_iload hx hb dX5_ownerOf_160 (lv_at hl 4 rfl) ?_
            refine lv_iconst (v := nI (1)) hx hb dX5_ownerOf_162 (by decide +kernel) ?_
            refine lv_isub hx hb dX5_ownerOf_163 ?_
            rw [pk_sub (a := k) (b := 1) (by omega)]
            refine m_old hx hb hW (k - 1) (by omega) (v := ordr σ i (k - 1)) (hoρl1 _ (by omega)) dX5_ownerOf_164 ?_
            have o_164 := ordr_lt (σ := σ) (i := i) (q := k - 1) (by omega)
            refine lv_iadd hx hb dX5_ownerOf_165 ?_
            rw [nI_add]
            refine m_ild hx hb hW 13 80 (by unfold mArr; decide) rfl rfl ((8 * i) + (ordr σ i (k - 1))) (by omega) (v := σ 13 ((8 * i) + (ordr σ i (k - 1)))) rfl dX5_ownerOf_166 ?_
            have b_166 := hB 13 ((8 * i) + (ordr σ i (k - 1)))
            refine lv_icmp_eq (tgt := 175) hx hb dX5_ownerOf_167 (by decide) (fun c_167 => ?_) (fun c_167 => ?_)
            · -- eq taken
              have c_167 := (x_eqN (a := t) (b := σ 13 ((8 * i) + (ordr σ i (k - 1)))) (by omega) (by omega)).mp c_167
              refine lv_iconst (v := nI (1)) hx hb dX5_ownerOf_175 (by decide +kernel) ?_
              refine lv_goto (tgt := 180) hx hb dX5_ownerOf_176 (by decide) ?_
              exact J180 _ _ _ hW (tv.one (by first | exact Or.inl c_167 | exact Or.inr c_172))
            · -- eq not
              have c_167 : ¬ (t = σ 13 ((8 * i) + (ordr σ i (k - 1)))) := fun h_ => c_167 ((x_eqN (a := t) (b := σ 13 ((8 * i) + (ordr σ i (k - 1)))) (by omega) (by omega)).mpr h_)
              refine lv_iload hx hb dX5_ownerOf_170 (lv_at hl 7 rfl) ?_
              refine lv_if_eq (tgt := 179) hx hb dX5_ownerOf_172 (by decide) (fun c_172 => ?_) (fun c_172 => ?_)
              · -- eq taken
                have c_172 := h_145.f c_172
                refine lv_iconst (v := nI (0)) hx hb dX5_ownerOf_179 (by decide +kernel) ?_
                exact J180 _ _ _ hW (tv.zero (fun h => h.elim (fun h1 => c_167 h1) (fun h1 => c_172 h1)))
              · -- eq not
                have c_172 := h_145.t c_172
                refine lv_iconst (v := nI (1)) hx hb dX5_ownerOf_175 (by decide +kernel) ?_
                refine lv_goto (tgt := 180) hx hb dX5_ownerOf_176 (by decide) ?_
                exact J180 _ _ _ hW (tv.one (by first | exact Or.inl c_167 | exact Or.inr c_172))
        ·
          refine lv_aload_n hx hb dX5_ownerOf_90 rfl (lv_at hl 0 rfl) ?_
          refine m_get hx hb hts hin5 hown hW 14 (by decide) rfl (hts (.fieldLink RX5 45 "RestitutoryModel" "kinds" "[I") (by decide +kernel)) (v := .ref (xa 20 14)) rfl dX5_ownerOf_91 ?_
          refine lv_iload hx hb dX5_ownerOf_94 (lv_at hl 5 rfl) ?_
          refine m_ild hx hb hW 14 80 (by unfold mArr; decide) rfl rfl ((8 * i) + (ordr σ i k)) (by omega) (v := σ 14 ((8 * i) + (ordr σ i k))) rfl dX5_ownerOf_96 ?_
          have b_96 := hB 14 ((8 * i) + (ordr σ i k))
          refine lv_if_ne (tgt := 144) hx hb dX5_ownerOf_97 (by decide) (fun c_97 => ?_) (fun c_97 => ?_)
          · -- ne taken
            have c_97 : ¬ (σ 14 ((8 * i) + (ordr σ i k)) = 0) := fun h_ => c_97 ((x_eqZ (a := σ 14 ((8 * i) + (ordr σ i k))) (by omega)).mpr h_)
            refine lv_iconst (v := nI (0)) hx hb dX5_ownerOf_144 (by decide +kernel) ?_
            exact J145 _ _ _ hW (tv.zero (by rintro ⟨h1, h2, h3⟩; unfold untO at h3; rw [if_pos (by omega)] at h3; first | exact c_97 h1 | omega | (rw [hsub] at c_137; omega)))
          · -- ne not
            have c_97 := (x_eqZ (a := σ 14 ((8 * i) + (ordr σ i k))) (by omega)).mp c_97
            refine lv_aload_n hx hb dX5_ownerOf_100 rfl (lv_at hl 0 rfl) ?_
            refine m_get hx hb hts hin5 hown hW 8 (by decide) rfl (hts (.fieldLink RX5 30 "RestitutoryModel" "faiths" "[I") (by decide +kernel)) (v := .ref (xa 20 8)) rfl dX5_ownerOf_101 ?_
            refine lv_aload_n hx hb dX5_ownerOf_104 rfl (lv_at hl 0 rfl) ?_
            refine m_get hx hb hts hin5 hown hW 15 (by decide) rfl (hts (.fieldLink RX5 48 "RestitutoryModel" "lands" "[I") (by decide +kernel)) (v := .ref (xa 20 15)) rfl dX5_ownerOf_105 ?_
            refine lv_iload hx hb dX5_ownerOf_108 (lv_at hl 5 rfl) ?_
            refine m_ild hx hb hW 15 80 (by unfold mArr; decide) rfl rfl ((8 * i) + (ordr σ i k)) (by omega) (v := σ 15 ((8 * i) + (ordr σ i k))) rfl dX5_ownerOf_110 ?_
            have b_110 := hB 15 ((8 * i) + (ordr σ i k))
            refine m_ild hx hb hW 8 5 (by unfold mArr; decide) rfl rfl (σ 15 ((8 * i) + (ordr σ i k))) (by omega) (v := σ 8 (σ 15 ((8 * i) + (ordr σ i k)))) rfl dX5_ownerOf_111 ?_
            have b_111 := hB 8 (σ 15 ((8 * i) + (ordr σ i k)))
            refine lv_if_le (tgt := 144) hx hb dX5_ownerOf_112 (by decide) (fun c_112 => ?_) (fun c_112 => ?_)
            · -- le taken
              have c_112 := Int32.le_iff_toInt_le.mp c_112
              rw [nI_toInt (n := σ 8 (σ 15 ((8 * i) + (ordr σ i k)))) (by omega)] at c_112
              rw [x_t0] at c_112
              refine lv_iconst (v := nI (0)) hx hb dX5_ownerOf_144 (by decide +kernel) ?_
              exact J145 _ _ _ hW (tv.zero (by rintro ⟨h1, h2, h3⟩; unfold untO at h3; rw [if_pos (by omega)] at h3; first | exact c_97 h1 | omega | (rw [hsub] at c_137; omega)))
            · -- le not
              have c_112 : ¬ ((nI (σ 8 (σ 15 ((8 * i) + (ordr σ i k))))).toInt ≤ ((0 : Int32)).toInt) := fun h => c_112 (Int32.le_iff_toInt_le.mpr h)
              rw [nI_toInt (n := σ 8 (σ 15 ((8 * i) + (ordr σ i k)))) (by omega)] at c_112
              rw [x_t0] at c_112
              refine lv_iload hx hb dX5_ownerOf_115 (lv_at hl 6 rfl) ?_
              refine lv_aload_n hx hb dX5_ownerOf_117 rfl (lv_at hl 0 rfl) ?_
              refine m_get hx hb hts hin5 hown hW 16 (by decide) rfl (hts (.fieldLink RX5 51 "RestitutoryModel" "years" "[I") (by decide +kernel)) (v := .ref (xa 20 16)) rfl dX5_ownerOf_118 ?_
              refine lv_iload hx hb dX5_ownerOf_121 (lv_at hl 5 rfl) ?_
              refine m_ild hx hb hW 16 80 (by unfold mArr; decide) rfl rfl ((8 * i) + (ordr σ i k)) (by omega) (v := σ 16 ((8 * i) + (ordr σ i k))) rfl dX5_ownerOf_123 ?_
              have b_123 := hB 16 ((8 * i) + (ordr σ i k))
              refine lv_isub hx hb dX5_ownerOf_124 ?_
              have hsub : (nI (σ 16 ((8 * i) + (ordr σ i (k + 1)))) - nI (σ 16 ((8 * i) + (ordr σ i k)))).toInt = ((σ 16 ((8 * i) + (ordr σ i (k + 1))) : Nat) : Int) - (σ 16 ((8 * i) + (ordr σ i k)) : Nat) := pk_sub_toInt (by omega) (by omega)
              refine lv_aload_n hx hb dX5_ownerOf_125 rfl (lv_at hl 0 rfl) ?_
              refine m_get hx hb hts hin5 hown hW 8 (by decide) rfl (hts (.fieldLink RX5 30 "RestitutoryModel" "faiths" "[I") (by decide +kernel)) (v := .ref (xa 20 8)) rfl dX5_ownerOf_126 ?_
              refine lv_aload_n hx hb dX5_ownerOf_129 rfl (lv_at hl 0 rfl) ?_
              refine m_get hx hb hts hin5 hown hW 15 (by decide) rfl (hts (.fieldLink RX5 48 "RestitutoryModel" "lands" "[I") (by decide +kernel)) (v := .ref (xa 20 15)) rfl dX5_ownerOf_130 ?_
              refine lv_iload hx hb dX5_ownerOf_133 (lv_at hl 5 rfl) ?_
              refine m_ild hx hb hW 15 80 (by unfold mArr; decide) rfl rfl ((8 * i) + (ordr σ i k)) (by omega) (v := σ 15 ((8 * i) + (ordr σ i k))) rfl dX5_ownerOf_135 ?_
              have b_135 := hB 15 ((8 * i) + (ordr σ i k))
              refine m_ild hx hb hW 8 5 (by unfold mArr; decide) rfl rfl (σ 15 ((8 * i) + (ordr σ i k))) (by omega) (v := σ 8 (σ 15 ((8 * i) + (ordr σ i k)))) rfl dX5_ownerOf_136 ?_
              have b_136 := hB 8 (σ 15 ((8 * i) + (ordr σ i k)))
              refine lv_icmp_lt (tgt := 144) hx hb dX5_ownerOf_137 (by decide) (fun c_137 => ?_) (fun c_137 => ?_)
              · -- lt taken
                have c_137 := Int32.lt_iff_toInt_lt.mp c_137
                rw [nI_toInt (n := σ 8 (σ 15 ((8 * i) + (ordr σ i k)))) (by omega)] at c_137
                refine lv_iconst (v := nI (0)) hx hb dX5_ownerOf_144 (by decide +kernel) ?_
                exact J145 _ _ _ hW (tv.zero (by rintro ⟨h1, h2, h3⟩; unfold untO at h3; rw [if_pos (by omega)] at h3; first | exact c_97 h1 | omega | (rw [hsub] at c_137; omega)))
              · -- lt not
                have c_137 : ¬ ((nI (σ 16 ((8 * i) + (ordr σ i (k + 1)))) - nI (σ 16 ((8 * i) + (ordr σ i k)))).toInt < (nI (σ 8 (σ 15 ((8 * i) + (ordr σ i k))))).toInt) := fun h => c_137 (Int32.lt_iff_toInt_lt.mpr h)
                rw [nI_toInt (n := σ 8 (σ 15 ((8 * i) + (ordr σ i k)))) (by omega)] at c_137
                refine lv_iconst (v := nI (1)) hx hb dX5_ownerOf_140 (by decide +kernel) ?_
                refine lv_goto (tgt := 145) hx hb dX5_ownerOf_141 (by decide) ?_
                exact J145 _ _ _ hW (tv.one (⟨c_97, by omega, by unfold untO; rw [if_pos (by omega)]; rw [hsub] at c_137; omega⟩))
  · -- ne not
    have c_7 := (x_eqZ (a := σ 11 i) (by omega)).mp c_7
    refine lv_iconst (v := -1) hx hb dX5_ownerOf_10 (by decide +kernel) ?_
    refine lv_goto (tgt := 30) hx hb dX5_ownerOf_11 (by decide) ?_
    refine lv_istore_n (lv' := [(3, .int (-1)), (0, .ref (xa 20 0)), (1, .int (nI (i))), (2, .int (nI (σ 11 i)))]) hx hb dX5_ownerOf_30 rfl hl (by decide) rfl (fun ls hl => ?_)
    have hl : lv_has ls 9 [(0, .ref (xa 20 0)), (1, .int (nI (i))), (2, .int (nI (σ 11 i))), (3, .int (-1))] := lv_sub hl [1, 2, 3, 0] rfl
    refine lv_iconst (v := nI (1)) hx hb dX5_ownerOf_31 (by decide +kernel) ?_
    refine lv_istore (lv' := [(4, .int (nI (1))), (0, .ref (xa 20 0)), (1, .int (nI (i))), (2, .int (nI (σ 11 i))), (3, .int (-1))]) hx hb dX5_ownerOf_32 hl (by decide) rfl (fun ls hl => ?_)
    have hl : lv_has ls 9 [(0, .ref (xa 20 0)), (1, .int (nI (i))), (2, .int (nI (σ 11 i))), (3, .int (-1)), (4, .int (nI (1)))] := lv_sub hl [1, 2, 3, 4, 0] rfl
    refine lv_iload hx hb dX5_ownerOf_34 (lv_at hl 4 rfl) ?_
    refine lv_iload_n hx hb dX5_ownerOf_36 rfl (lv_at hl 2 rfl) ?_
    refine lv_icmp_ge (tgt := 225) hx hb dX5_ownerOf_37 (by decide) (fun c_37 => ?_) (fun c_37 => ?_)
    · -- ge taken
      have c_37 := Int32.le_iff_toInt_le.mp c_37
      rw [nI_toInt (n := 1) (by omega)] at c_37
      rw [nI_toInt (n := σ 11 i) (by omega)] at c_37
      refine lv_iload_n hx hb dX5_ownerOf_225 rfl (lv_at hl 3 rfl) ?_
      refine lv_iconst (v := -1) hx hb dX5_ownerOf_226 (by decide +kernel) ?_
      refine lv_icmp_eq (tgt := 239) hx hb dX5_ownerOf_227 (by decide) (fun c_227 => ?_) (fun c_227 => ?_)
      · -- eq taken
        refine lv_iload_n hx hb dX5_ownerOf_239 rfl (lv_at hl 3 rfl) ?_
        refine lv_goto (tgt := 248) hx hb dX5_ownerOf_240 (by decide) ?_
        exact xe_i hx hb hr rfl hlocks hW ⟨ρl1, rfl, none, rfl, Or.inl ⟨c_7, rfl⟩⟩ (Nat.le_refl _) (Nat.le_refl _) dX5_ownerOf_248
      · -- eq not
        exact absurd rfl c_227
    · -- ge not
      have c_37 : ¬ ((nI (σ 11 i)).toInt ≤ (nI (1)).toInt) := fun h => c_37 (Int32.le_iff_toInt_le.mpr h)
      rw [nI_toInt (n := 1) (by omega)] at c_37
      rw [nI_toInt (n := σ 11 i) (by omega)] at c_37
      exact absurd c_37 (by omega)

set_option maxHeartbeats 4000000 in
set_option maxRecDepth 100000 in
theorem c_X5_owner (l : Launch) (D : xD) (sa : Nat → Nat) (xa : xA) (G0 : xG) (σ : Sg) (ρ : Nat → Nat) (la : Nat) (hg : Gd σ) (t : Int32) : xCi l yX5_owner wsX5_owner ({ frames := 22, cells := 0, slots := 0, locals := 800 } : Room) D sa xa (mG G0 D xa σ ρ la) [.ref (xa 20 0), .int t] (fun r u => ∃ k ρ1, gk (pT σ t) True True k ∧ u = (xa, mG G0 D xa σ ρ1 k) ∧ (k = 0 → ∃ o, r = oi o ∧ own σ (xn t) o)) 0 0 := by
  have hB := hg.1
  have h5 := hg.2.1.1
  have h7 := hg.2.1.2.1
  have h12 := hg.2.1.2.2.1
  have hy0 := hg.2.1.2.2.2.1
  have hy1 := hg.2.1.2.2.2.2
  have hm := hg.hm
  have hs8 := hg.hs8
  intro sz
  refine Met.ofW (cc := cX5_owner) (maxL := 2) (ret := (some .int)) (by decide +kernel) rfl ?_
  intro p e s m args below meth c s₁ B hml hv
  obtain ⟨rfl, hsz, hv2⟩ := hv
  subst hsz
  have hx := B.exec
  have hb := B.bytes
  have hr := B.returns
  have hts := atoms_spec (ws := wsX5_owner) B.pre
  have hown : s.vm.findClass RX5 = some m.cls := findClass_of_methodNamed B.named
  have hlocks := B.notSynchronized
  have hin5 : ∀ w ∈ wsX50, w ∈ wsX5_owner := by decide +kernel
  have hW := xW.start (s := s) ⟨rfl, hv2⟩
  clear hv2
  generalize xAw xa (mG G0 D xa σ ρ la) s.heap.size = A at hW ⊢
  have hl := lv_entry ([.ref (xa 20 0), .int (t)]) (n := 2) (Nat.le_of_ble_eq_true rfl)
  rw [lg_entry_eq]
  generalize (lg_sl ([.ref (xa 20 0), .int (t)]) ++ List.replicate (2 - (lg_sl ([.ref (xa 20 0), .int (t)])).length) Slot.unset).toArray = ls at hl ⊢
  have hl : lv_has ls 2 [(0, .ref (xa 20 0)), (1, .int (t))] := hl
  refine lv_aload_n hx hb dX5_owner_0 rfl (lv_at hl 0 rfl) ?_
  refine lv_aload_n hx hb dX5_owner_1 rfl (lv_at hl 0 rfl) ?_
  refine lv_iload_n hx hb dX5_owner_2 rfl (lv_at hl 1 rfl) ?_
  refine xv_i (As := [.int (t)]) (rest := [.ref (xa 20 0)]) ⟨hx, hb, hml, hown, hts⟩ (c_X5_isThing l D sa xa G0 σ ρ la hB t) (cwV 1 hts gX5_owner_X5_isThing rfl rfl rfl (by decide +kernel) ⟨Nat.le_of_ble_eq_true rfl, Nat.le_of_ble_eq_true rfl⟩) hW (mG_obj _ _ _ _ _ _) rfl rfl rfl rfl hl.1 (Nat.le_of_ble_eq_true rfl) dX5_owner_3 ⟨Nat.le_of_ble_eq_true rfl, Nat.le_of_ble_eq_true rfl⟩ (fun r_3 xa1 G1 H locs hp hW => ?_)
  obtain ⟨hu, hr_3⟩ := hp
  cases hu
  refine lv_iconst (v := nI (1)) hx hb dX5_owner_6 (by decide +kernel) ?_
  refine lv_iconst (v := nI (1)) hx hb dX5_owner_7 (by decide +kernel) ?_
  refine xv_i (As := [.int (r_3), .int (nI (1)), .int (nI (1))]) (rest := []) ⟨hx, hb, hml, hown, hts⟩ (c_X5_goes l D sa xa G0 σ ρ la hB hr_3 (tv.one trivial) (tv.one trivial)) (cwV 3 hts gX5_owner_X5_goes rfl rfl rfl (by decide +kernel) ⟨Nat.le_of_ble_eq_true rfl, Nat.le_of_ble_eq_true rfl⟩) hW (mG_obj _ _ _ _ _ _) rfl rfl rfl rfl hl.1 (Nat.le_of_ble_eq_true rfl) dX5_owner_8 ⟨Nat.le_of_ble_eq_true rfl, Nat.le_of_ble_eq_true rfl⟩ (fun r_8 xa1 G1 H locs hp hW => ?_)
  obtain ⟨la1, hu, hr_8, hk⟩ := hp
  cases hu
  refine lv_if_eq (tgt := 22) hx hb dX5_owner_11 (by decide) (fun c_11 => ?_) (fun c_11 => ?_)
  · -- eq taken
    have c_11 := hr_8.f c_11
    refine lv_iconst (v := nI (0)) hx hb dX5_owner_22 (by decide +kernel) ?_
    exact xe_i hx hb hr rfl hlocks hW ⟨la1, ρ, hk, rfl, fun h => absurd h c_11⟩ (Nat.le_refl _) (Nat.le_refl _) dX5_owner_23
  · -- eq not
    have c_11 := hr_8.t c_11
    subst c_11
    obtain ⟨hz1, hz2, hz3⟩ := hk.zero
    have hu_ti := hz1
    unfold pT at hu_ti
    obtain ⟨ti, hti, rfl⟩ := x_nat (n := σ 12 0) (x := t) (by omega) (by omega)
    refine lv_aload_n hx hb dX5_owner_14 rfl (lv_at hl 0 rfl) ?_
    refine lv_iload_n hx hb dX5_owner_15 rfl (lv_at hl 1 rfl) ?_
    refine xv_i (As := [.int (nI (ti))]) (rest := []) ⟨hx, hb, hml, hown, hts⟩ (c_X5_ownerOf l D sa xa G0 σ ρ 0 hg ti (by omega)) (cwV 1 hts gX5_owner_X5_ownerOf rfl rfl rfl (by decide +kernel) ⟨Nat.le_of_ble_eq_true rfl, Nat.le_of_ble_eq_true rfl⟩) hW (mG_obj _ _ _ _ _ _) rfl rfl rfl rfl hl.1 (Nat.le_of_ble_eq_true rfl) dX5_owner_16 ⟨Nat.le_of_ble_eq_true rfl, Nat.le_of_ble_eq_true rfl⟩ (fun r_16 xa1 G1 H locs hp hW => ?_)
    obtain ⟨ρl1, hu, hr_16⟩ := hp
    cases hu
    obtain ⟨ow, hr_16, how_16⟩ := hr_16
    refine lv_goto (tgt := 23) hx hb dX5_owner_19 (by decide) ?_
    exact xe_i hx hb hr rfl hlocks hW ⟨0, ρl1, hk, rfl, fun _ => ⟨ow, hr_16, by rw [xn_nI (by omega)]; exact how_16⟩⟩ (Nat.le_refl _) (Nat.le_refl _) dX5_owner_23

set_option maxHeartbeats 4000000 in
set_option maxRecDepth 100000 in
theorem c_X5_ownerAnew (l : Launch) (D : xD) (sa : Nat → Nat) (xa : xA) (G0 : xG) (σ : Sg) (ρ : Nat → Nat) (la : Nat) (hg : Gd σ) (t : Int32) : xCi l yX5_ownerAnew wsX5_ownerAnew ({ frames := 24, cells := 0, slots := 0, locals := 900 } : Room) D sa xa (mG G0 D xa σ ρ la) [.ref (xa 20 0), .int t] (fun r u => ∃ k ρ1, gk (pT σ t) True True k ∧ u = (xa, mG G0 D xa σ ρ1 k) ∧ (k = 0 → ∃ o, r = oi o ∧ own σ (xn t) o)) 0 0 := by
  have hB := hg.1
  have h5 := hg.2.1.1
  have h7 := hg.2.1.2.1
  have h12 := hg.2.1.2.2.1
  have hy0 := hg.2.1.2.2.2.1
  have hy1 := hg.2.1.2.2.2.2
  have hm := hg.hm
  have hs8 := hg.hs8
  intro sz
  refine Met.ofW (cc := cX5_ownerAnew) (maxL := 2) (ret := (some .int)) (by decide +kernel) rfl ?_
  intro p e s m args below meth c s₁ B hml hv
  obtain ⟨rfl, hsz, hv2⟩ := hv
  subst hsz
  have hx := B.exec
  have hb := B.bytes
  have hr := B.returns
  have hts := atoms_spec (ws := wsX5_ownerAnew) B.pre
  have hown : s.vm.findClass RX5 = some m.cls := findClass_of_methodNamed B.named
  have hlocks := B.notSynchronized
  have hin5 : ∀ w ∈ wsX50, w ∈ wsX5_ownerAnew := by decide +kernel
  have hW := xW.start (s := s) ⟨rfl, hv2⟩
  clear hv2
  generalize xAw xa (mG G0 D xa σ ρ la) s.heap.size = A at hW ⊢
  have hl := lv_entry ([.ref (xa 20 0), .int (t)]) (n := 2) (Nat.le_of_ble_eq_true rfl)
  rw [lg_entry_eq]
  generalize (lg_sl ([.ref (xa 20 0), .int (t)]) ++ List.replicate (2 - (lg_sl ([.ref (xa 20 0), .int (t)])).length) Slot.unset).toArray = ls at hl ⊢
  have hl : lv_has ls 2 [(0, .ref (xa 20 0)), (1, .int (t))] := hl
  refine lv_aload_n hx hb dX5_ownerAnew_0 rfl (lv_at hl 0 rfl) ?_
  refine lv_iload_n hx hb dX5_ownerAnew_1 rfl (lv_at hl 1 rfl) ?_
  refine xv_i (As := [.int (t)]) (rest := []) ⟨hx, hb, hml, hown, hts⟩ (c_X5_owner l D sa xa G0 σ ρ la hg t) (cwV 1 hts gX5_ownerAnew_X5_owner rfl rfl rfl (by decide +kernel) ⟨Nat.le_of_ble_eq_true rfl, Nat.le_of_ble_eq_true rfl⟩) hW (mG_obj _ _ _ _ _ _) rfl rfl rfl rfl hl.1 (Nat.le_of_ble_eq_true rfl) dX5_ownerAnew_2 ⟨Nat.le_of_ble_eq_true rfl, Nat.le_of_ble_eq_true rfl⟩ (fun r_2 xa1 G1 H locs hp hW => ?_)
  obtain ⟨k, ρ1, hk, hu, hr_2⟩ := hp
  cases hu
  exact xe_i hx hb hr rfl hlocks hW ⟨k, ρ1, hk, rfl, hr_2⟩ (Nat.le_refl _) (Nat.le_refl _) dX5_ownerAnew_5

set_option maxHeartbeats 4000000 in
set_option maxRecDepth 100000 in
theorem c_X5_asks (l : Launch) (D : xD) (sa : Nat → Nat) (xa : xA) (G0 : xG) (σ : Sg) (ρ : Nat → Nat) (la : Nat) (hg : Gd σ) (x : Int32) : xCi l yX5_asks wsX5_asks ({ frames := 20, cells := 0, slots := 0, locals := 700 } : Room) D sa xa (mG G0 D xa σ ρ la) [.ref (xa 20 0), .int x] (fun r u => ∃ k ρ1, gk (pP σ x) True True k ∧ u = (xa, mG G0 D xa σ ρ1 k) ∧ (k = 0 → ∃ n, r = nI n ∧ cnt σ (xn x) (σ 12 0) n)) 0 0 := by
  have hB := hg.1
  have h5 := hg.2.1.1
  have h7 := hg.2.1.2.1
  have h12 := hg.2.1.2.2.1
  have hy0 := hg.2.1.2.2.2.1
  have hy1 := hg.2.1.2.2.2.2
  have hm := hg.hm
  have hs8 := hg.hs8
  intro sz
  refine Met.ofW (cc := cX5_asks) (maxL := 4) (ret := (some .int)) (by decide +kernel) rfl ?_
  intro p e s m args below meth c s₁ B hml hv
  obtain ⟨rfl, hsz, hv2⟩ := hv
  subst hsz
  have hx := B.exec
  have hb := B.bytes
  have hr := B.returns
  have hts := atoms_spec (ws := wsX5_asks) B.pre
  have hown : s.vm.findClass RX5 = some m.cls := findClass_of_methodNamed B.named
  have hlocks := B.notSynchronized
  have hin5 : ∀ w ∈ wsX50, w ∈ wsX5_asks := by decide +kernel
  have hW := xW.start (s := s) ⟨rfl, hv2⟩
  clear hv2
  generalize xAw xa (mG G0 D xa σ ρ la) s.heap.size = A at hW ⊢
  have hl := lv_entry ([.ref (xa 20 0), .int (x)]) (n := 4) (Nat.le_of_ble_eq_true rfl)
  rw [lg_entry_eq]
  generalize (lg_sl ([.ref (xa 20 0), .int (x)]) ++ List.replicate (4 - (lg_sl ([.ref (xa 20 0), .int (x)])).length) Slot.unset).toArray = ls at hl ⊢
  have hl : lv_has ls 4 [(0, .ref (xa 20 0)), (1, .int (x))] := hl
  refine lv_aload_n hx hb dX5_asks_0 rfl (lv_at hl 0 rfl) ?_
  refine lv_aload_n hx hb dX5_asks_1 rfl (lv_at hl 0 rfl) ?_
  refine lv_iload_n hx hb dX5_asks_2 rfl (lv_at hl 1 rfl) ?_
  refine xv_i (As := [.int (x)]) (rest := [.ref (xa 20 0)]) ⟨hx, hb, hml, hown, hts⟩ (c_X5_isPerson l D sa xa G0 σ ρ la hB x) (cwV 1 hts gX5_asks_X5_isPerson rfl rfl rfl (by decide +kernel) ⟨Nat.le_of_ble_eq_true rfl, Nat.le_of_ble_eq_true rfl⟩) hW (mG_obj _ _ _ _ _ _) rfl rfl rfl rfl hl.1 (Nat.le_of_ble_eq_true rfl) dX5_asks_3 ⟨Nat.le_of_ble_eq_true rfl, Nat.le_of_ble_eq_true rfl⟩ (fun r_3 xa1 G1 H locs hp hW => ?_)
  obtain ⟨hu, hr_3⟩ := hp
  cases hu
  refine lv_iconst (v := nI (1)) hx hb dX5_asks_6 (by decide +kernel) ?_
  refine lv_iconst (v := nI (1)) hx hb dX5_asks_7 (by decide +kernel) ?_
  refine xv_i (As := [.int (r_3), .int (nI (1)), .int (nI (1))]) (rest := []) ⟨hx, hb, hml, hown, hts⟩ (c_X5_goes l D sa xa G0 σ ρ la hB hr_3 (tv.one trivial) (tv.one trivial)) (cwV 3 hts gX5_asks_X5_goes rfl rfl rfl (by decide +kernel) ⟨Nat.le_of_ble_eq_true rfl, Nat.le_of_ble_eq_true rfl⟩) hW (mG_obj _ _ _ _ _ _) rfl rfl rfl rfl hl.1 (Nat.le_of_ble_eq_true rfl) dX5_asks_8 ⟨Nat.le_of_ble_eq_true rfl, Nat.le_of_ble_eq_true rfl⟩ (fun r_8 xa1 G1 H locs hp hW => ?_)
  obtain ⟨la1, hu, hr_8, hk⟩ := hp
  cases hu
  refine lv_if_ne (tgt := 16) hx hb dX5_asks_11 (by decide) (fun c_11 => ?_) (fun c_11 => ?_)
  · -- ne taken
    have c_11 := hr_8.t c_11
    subst c_11
    obtain ⟨hz1, hz2, hz3⟩ := hk.zero
    have hu_xi := hz1
    unfold pP at hu_xi
    obtain ⟨xi, hxi, rfl⟩ := x_nat (n := σ 5 0) (x := x) (by omega) (by omega)
    refine lv_iconst (v := nI (0)) hx hb dX5_asks_16 (by decide +kernel) ?_
    refine lv_istore_n (lv' := [(2, .int (nI (0))), (0, .ref (xa 20 0)), (1, .int (nI (xi)))]) hx hb dX5_asks_17 rfl hl (by decide) rfl (fun ls hl => ?_)
    have hl : lv_has ls 4 [(0, .ref (xa 20 0)), (1, .int (nI (xi))), (2, .int (nI (0)))] := lv_sub hl [1, 2, 0] rfl
    refine lv_iconst (v := nI (0)) hx hb dX5_asks_18 (by decide +kernel) ?_
    refine lv_istore_n (lv' := [(3, .int (nI (0))), (0, .ref (xa 20 0)), (1, .int (nI (xi))), (2, .int (nI (0)))]) hx hb dX5_asks_19 rfl hl (by decide) rfl (fun ls hl => ?_)
    have hl : lv_has ls 4 [(0, .ref (xa 20 0)), (1, .int (nI (xi))), (2, .int (nI (0))), (3, .int (nI (0)))] := lv_sub hl [1, 2, 3, 0] rfl
    refine x_loop (X := Nat × Nat × (Nat → Nat)) (I := fun n xv H locs ls => n = σ 12 0 - xv.2.1 ∧ xW D sa A s xa (mG G0 D xa σ (xv.2.2) 0) H locs ∧ lv_has ls 4 [(0, .ref (xa 20 0)), (1, .int (nI (xi))), (2, .int (nI (xv.1))), (3, .int (nI (xv.2.1)))] ∧ (cnt σ xi xv.2.1 xv.1) ∧ (xv.2.1 ≤ σ 12 0) ∧ (xv.1 ≤ xv.2.1)) (hd := 20) ?_ (n := _) (x := (0, 0, ρ)) ⟨rfl, hW, hl, rfl, by (try dsimp only); omega, by (try dsimp only); omega⟩
    rintro n ⟨n0, k, ρ2⟩ H locs ls ⟨hn, hW, hl, hc, hk2, hn0⟩ ih20
    try dsimp only at hn hW hl hc hk2 hn0
    refine lv_iload_n hx hb dX5_asks_20 rfl (lv_at hl 3 rfl) ?_
    refine lv_aload_n hx hb dX5_asks_21 rfl (lv_at hl 0 rfl) ?_
    refine m_get hx hb hts hin5 hown hW 12 (by decide) rfl (hts (.fieldLink RX5 73 "RestitutoryModel" "things" "I") (by decide +kernel)) (v := .int (nI (σ 12 0))) rfl dX5_asks_22 ?_
    have b_22 := hB 12 0
    refine lv_icmp_ge (tgt := 60) hx hb dX5_asks_25 (by decide) (fun c_25 => ?_) (fun c_25 => ?_)
    · -- ge taken
      have c_25 := Int32.le_iff_toInt_le.mp c_25
      rw [nI_toInt (n := k) (by omega)] at c_25
      rw [nI_toInt (n := σ 12 0) (by omega)] at c_25
      refine lv_iload_n hx hb dX5_asks_60 rfl (lv_at hl 2 rfl) ?_
      exact xe_i hx hb hr rfl hlocks hW ⟨0, ρ2, hk, rfl, fun _ => ⟨n0, rfl, by rw [xn_nI (by omega), show σ 12 0 = k by omega]; exact hc⟩⟩ (Nat.le_refl _) (Nat.le_refl _) dX5_asks_61
    · -- ge not
      have c_25 : ¬ ((nI (σ 12 0)).toInt ≤ (nI (k)).toInt) := fun h => c_25 (Int32.le_iff_toInt_le.mpr h)
      rw [nI_toInt (n := k) (by omega)] at c_25
      rw [nI_toInt (n := σ 12 0) (by omega)] at c_25
      refine lv_iload_n hx hb dX5_asks_28 rfl (lv_at hl 2 rfl) ?_
      refine lv_aload_n hx hb dX5_asks_29 rfl (lv_at hl 0 rfl) ?_
      refine lv_iload_n hx hb dX5_asks_30 rfl (lv_at hl 3 rfl) ?_
      refine xv_i (As := [.int (nI (k))]) (rest := [.int (nI (n0))]) ⟨hx, hb, hml, hown, hts⟩ (c_X5_ownerOf l D sa xa G0 σ ρ2 0 hg k (by omega)) (cwV 1 hts gX5_asks_X5_ownerOf rfl rfl rfl (by decide +kernel) ⟨Nat.le_of_ble_eq_true rfl, Nat.le_of_ble_eq_true rfl⟩) hW (mG_obj _ _ _ _ _ _) rfl rfl rfl rfl hl.1 (Nat.le_of_ble_eq_true rfl) dX5_asks_31 ⟨Nat.le_of_ble_eq_true rfl, Nat.le_of_ble_eq_true rfl⟩ (fun r_31 xa1 G1 H locs hp hW => ?_)
      obtain ⟨ρl1, hu, hr_31⟩ := hp
      cases hu
      obtain ⟨ow, hr_31, how_31⟩ := hr_31
      refine lv_iload_n hx hb dX5_asks_34 rfl (lv_at hl 1 rfl) ?_
      refine lv_icmp_ne (tgt := 51) hx hb dX5_asks_35 (by decide) (fun c_35 => ?_) (fun c_35 => ?_)
      · -- ne taken
        rw [hr_31] at c_35
        have ho_ne : ¬ ow = some xi := fun h => c_35 (by rw [h]; rfl)
        refine lv_iconst (v := nI (0)) hx hb dX5_asks_51 (by decide +kernel) ?_
        refine lv_iadd hx hb dX5_asks_52 ?_
        rw [nI_add]
        refine lv_istore_n (lv' := [(2, .int (nI (n0 + 0))), (0, .ref (xa 20 0)), (1, .int (nI (xi))), (3, .int (nI (k)))]) hx hb dX5_asks_53 rfl hl (by decide) rfl (fun ls hl => ?_)
        have hl : lv_has ls 4 [(0, .ref (xa 20 0)), (1, .int (nI (xi))), (2, .int (nI (n0 + 0))), (3, .int (nI (k)))] := lv_sub hl [1, 2, 0, 3] rfl
        refine lv_iinc (v := nI (k + 1)) (lv' := [(3, .int (nI (k + 1))), (0, .ref (xa 20 0)), (1, .int (nI (xi))), (2, .int (nI (n0 + 0)))]) hx hb dX5_asks_54 hl (k := 3) rfl (x_inc k 1 rfl) (by decide) rfl (fun ls hl => ?_)
        have hl : lv_has ls 4 [(0, .ref (xa 20 0)), (1, .int (nI (xi))), (2, .int (nI (n0 + 0))), (3, .int (nI (k + 1)))] := lv_sub hl [1, 2, 3, 0] rfl
        refine lv_goto (tgt := 20) hx hb dX5_asks_57 (by decide) ?_
        have hnx : cnt σ xi (k + 1) (n0 + 0) := ⟨n0, ow, hc, how_31, Or.inr ⟨fun h => ho_ne h.1, by omega⟩⟩
        exact ih20 (σ 12 0 - (k + 1)) (n0 + 0, k + 1, ρl1) _ _ _ (by omega) ⟨rfl, hW, hl, hnx, by (try dsimp only); omega, by (try dsimp only); omega⟩
      · -- ne not
        rw [hr_31] at c_35
        have ho_eq : ow = some xi := oi_eq (by omega) (fun a h => by have := own_lt hg (by omega) how_31 h; omega) c_35
        refine lv_aload_n hx hb dX5_asks_38 rfl (lv_at hl 0 rfl) ?_
        refine lv_iload_n hx hb dX5_asks_39 rfl (lv_at hl 3 rfl) ?_
        refine xv_i (As := [.int (nI (k))]) (rest := [.int (nI (n0))]) ⟨hx, hb, hml, hown, hts⟩ (c_X5_holderOf l D sa xa G0 σ ρl1 0 hg k (by omega)) (cwV 1 hts gX5_asks_X5_holderOf rfl rfl rfl (by decide +kernel) ⟨Nat.le_of_ble_eq_true rfl, Nat.le_of_ble_eq_true rfl⟩) hW (mG_obj _ _ _ _ _ _) rfl rfl rfl rfl hl.1 (Nat.le_of_ble_eq_true rfl) dX5_asks_40 ⟨Nat.le_of_ble_eq_true rfl, Nat.le_of_ble_eq_true rfl⟩ (fun r_40 xa1 G1 H locs hp hW => ?_)
        obtain ⟨ρl2, hu, hr_40⟩ := hp
        cases hu
        refine lv_iload_n hx hb dX5_asks_43 rfl (lv_at hl 1 rfl) ?_
        refine lv_icmp_eq (tgt := 51) hx hb dX5_asks_44 (by decide) (fun c_44 => ?_) (fun c_44 => ?_)
        · -- eq taken
          rw [hr_40] at c_44
          have hh_eq : hold σ k = some xi := oi_eq (by omega) (fun a h => by have := hold_lt hg (by omega) h; omega) c_44
          refine lv_iconst (v := nI (0)) hx hb dX5_asks_51 (by decide +kernel) ?_
          refine lv_iadd hx hb dX5_asks_52 ?_
          rw [nI_add]
          refine lv_istore_n (lv' := [(2, .int (nI (n0 + 0))), (0, .ref (xa 20 0)), (1, .int (nI (xi))), (3, .int (nI (k)))]) hx hb dX5_asks_53 rfl hl (by decide) rfl (fun ls hl => ?_)
          have hl : lv_has ls 4 [(0, .ref (xa 20 0)), (1, .int (nI (xi))), (2, .int (nI (n0 + 0))), (3, .int (nI (k)))] := lv_sub hl [1, 2, 0, 3] rfl
          refine lv_iinc (v := nI (k + 1)) (lv' := [(3, .int (nI (k + 1))), (0, .ref (xa 20 0)), (1, .int (nI (xi))), (2, .int (nI (n0 + 0)))]) hx hb dX5_asks_54 hl (k := 3) rfl (x_inc k 1 rfl) (by decide) rfl (fun ls hl => ?_)
          have hl : lv_has ls 4 [(0, .ref (xa 20 0)), (1, .int (nI (xi))), (2, .int (nI (n0 + 0))), (3, .int (nI (k + 1)))] := lv_sub hl [1, 2, 3, 0] rfl
          refine lv_goto (tgt := 20) hx hb dX5_asks_57 (by decide) ?_
          have hnx : cnt σ xi (k + 1) (n0 + 0) := ⟨n0, ow, hc, how_31, Or.inr ⟨fun h => h.2 hh_eq, by omega⟩⟩
          exact ih20 (σ 12 0 - (k + 1)) (n0 + 0, k + 1, ρl2) _ _ _ (by omega) ⟨rfl, hW, hl, hnx, by (try dsimp only); omega, by (try dsimp only); omega⟩
        · -- eq not
          rw [hr_40] at c_44
          have hh_ne : hold σ k ≠ some xi := fun h => c_44 (by rw [h]; rfl)
          refine lv_iconst (v := nI (1)) hx hb dX5_asks_47 (by decide +kernel) ?_
          refine lv_goto (tgt := 52) hx hb dX5_asks_48 (by decide) ?_
          refine lv_iadd hx hb dX5_asks_52 ?_
          rw [nI_add]
          refine lv_istore_n (lv' := [(2, .int (nI (n0 + 1))), (0, .ref (xa 20 0)), (1, .int (nI (xi))), (3, .int (nI (k)))]) hx hb dX5_asks_53 rfl hl (by decide) rfl (fun ls hl => ?_)
          have hl : lv_has ls 4 [(0, .ref (xa 20 0)), (1, .int (nI (xi))), (2, .int (nI (n0 + 1))), (3, .int (nI (k)))] := lv_sub hl [1, 2, 0, 3] rfl
          refine lv_iinc (v := nI (k + 1)) (lv' := [(3, .int (nI (k + 1))), (0, .ref (xa 20 0)), (1, .int (nI (xi))), (2, .int (nI (n0 + 1)))]) hx hb dX5_asks_54 hl (k := 3) rfl (x_inc k 1 rfl) (by decide) rfl (fun ls hl => ?_)
          have hl : lv_has ls 4 [(0, .ref (xa 20 0)), (1, .int (nI (xi))), (2, .int (nI (n0 + 1))), (3, .int (nI (k + 1)))] := lv_sub hl [1, 2, 3, 0] rfl
          refine lv_goto (tgt := 20) hx hb dX5_asks_57 (by decide) ?_
          have hnx : cnt σ xi (k + 1) (n0 + 1) := ⟨n0, ow, hc, how_31, Or.inl ⟨ho_eq, hh_ne, by omega⟩⟩
          exact ih20 (σ 12 0 - (k + 1)) (n0 + 1, k + 1, ρl2) _ _ _ (by omega) ⟨rfl, hW, hl, hnx, by (try dsimp only); omega, by (try dsimp only); omega⟩
  · -- ne not
    have c_11 := hr_8.f c_11
    refine lv_iconst (v := nI (0)) hx hb dX5_asks_14 (by decide +kernel) ?_
    exact xe_i hx hb hr rfl hlocks hW ⟨la1, ρ, hk, rfl, fun h => absurd h c_11⟩ (Nat.le_refl _) (Nat.le_refl _) dX5_asks_15

set_option maxHeartbeats 4000000 in
set_option maxRecDepth 100000 in
theorem c_X5_thrown (l : Launch) (D : xD) (sa : Nat → Nat) (xa : xA) (G0 : xG) (σ : Sg) (ρ : Nat → Nat) (la : Nat) (hg : Gd σ)  : mRd l yX5_thrown wsX5_thrown ({ frames := 10, cells := 0, slots := 0, locals := 200 } : Room) D sa xa G0 σ ρ la [] (fun r => r = nI la) := by
  have hB := hg.1
  have h5 := hg.2.1.1
  have h7 := hg.2.1.2.1
  have h12 := hg.2.1.2.2.1
  have hy0 := hg.2.1.2.2.2.1
  have hy1 := hg.2.1.2.2.2.2
  have hm := hg.hm
  have hs8 := hg.hs8
  intro sz
  refine Met.ofW (cc := cX5_thrown) (maxL := 1) (ret := (some .int)) (by decide +kernel) rfl ?_
  intro p e s m args below meth c s₁ B hml hv
  obtain ⟨rfl, hsz, hv2⟩ := hv
  subst hsz
  have hx := B.exec
  have hb := B.bytes
  have hr := B.returns
  have hts := atoms_spec (ws := wsX5_thrown) B.pre
  have hown : s.vm.findClass RX5 = some m.cls := findClass_of_methodNamed B.named
  have hlocks := B.notSynchronized
  have hin5 : ∀ w ∈ wsX50, w ∈ wsX5_thrown := by decide +kernel
  have hW := xW.start (s := s) ⟨rfl, hv2⟩
  clear hv2
  generalize xAw xa (mG G0 D xa σ ρ la) s.heap.size = A at hW ⊢
  have hl := lv_entry ([.ref (xa 20 0)]) (n := 1) (Nat.le_of_ble_eq_true rfl)
  rw [lg_entry_eq]
  generalize (lg_sl ([.ref (xa 20 0)]) ++ List.replicate (1 - (lg_sl ([.ref (xa 20 0)])).length) Slot.unset).toArray = ls at hl ⊢
  have hl : lv_has ls 1 [(0, .ref (xa 20 0))] := hl
  refine lv_aload_n hx hb dX5_thrown_0 rfl (lv_at hl 0 rfl) ?_
  refine m_get hx hb hts hin5 hown hW 20 (by decide) rfl (hts (.fieldLink RX5 63 "RestitutoryModel" "last" "I") (by decide +kernel)) (v := .int (nI (la))) rfl dX5_thrown_1 ?_
  exact xe_i hx hb hr rfl hlocks hW ⟨rfl, rfl⟩ (Nat.le_refl _) (Nat.le_refl _) dX5_thrown_4
