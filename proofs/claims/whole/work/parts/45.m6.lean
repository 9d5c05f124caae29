set_option maxHeartbeats 4000000 in
set_option maxRecDepth 100000 in
theorem c_X5_lays (l : Launch) (D : xD) (sa : Nat → Nat) (xa : xA) (G0 : xG) (σ : Sg) (ρ : Nat → Nat) (la : Nat) (hg : Gd σ) (i : Nat) (hi : i < σ 12 0) : xCi l yX5_lays wsX5_lays ({ frames := 10, cells := 0, slots := 0, locals := 200 } : Room) D sa xa (mG G0 D xa σ ρ la) [.ref (xa 20 0), .int (nI i)] (fun r u => ∃ ρ1, u = (xa, mG G0 D xa σ ρ1 la) ∧ r = nI (σ 11 i) ∧ ∀ q, q < σ 11 i → ρ1 q = ordr σ i q) 0 0 := by
  have hB := hg.1
  have h5 := hg.2.1.1
  have h7 := hg.2.1.2.1
  have h12 := hg.2.1.2.2.1
  have hy0 := hg.2.1.2.2.2.1
  have hy1 := hg.2.1.2.2.2.2
  have hm := hg.hm
  have hs8 := hg.hs8
  intro sz
  refine Met.ofW (cc := cX5_lays) (maxL := 5) (ret := (some .int)) (by decide +kernel) rfl ?_
  intro p e s m args below meth c s₁ B hml hv
  obtain ⟨rfl, hsz, hv2⟩ := hv
  subst hsz
  have hx := B.exec
  have hb := B.bytes
  have hr := B.returns
  have hts := atoms_spec (ws := wsX5_lays) B.pre
  have hown : s.vm.findClass RX5 = some m.cls := findClass_of_methodNamed B.named
  have hlocks := B.notSynchronized
  have hin5 : ∀ w ∈ wsX50, w ∈ wsX5_lays := by decide +kernel
  have hW := xW.start (s := s) ⟨rfl, hv2⟩
  clear hv2
  generalize xAw xa (mG G0 D xa σ ρ la) s.heap.size = A at hW ⊢
  have hl := lv_entry ([.ref (xa 20 0), .int (nI (i))]) (n := 5) (Nat.le_of_ble_eq_true rfl)
  rw [lg_entry_eq]
  generalize (lg_sl ([.ref (xa 20 0), .int (nI (i))]) ++ List.replicate (5 - (lg_sl ([.ref (xa 20 0), .int (nI (i))])).length) Slot.unset).toArray = ls at hl ⊢
  have hl : lv_has ls 5 [(0, .ref (xa 20 0)), (1, .int (nI (i)))] := hl
  refine lv_bipush (v := nI (8)) hx hb dX5_lays_0 (by decide +kernel) ?_
  refine lv_iload_n hx hb dX5_lays_2 rfl (lv_at hl 1 rfl) ?_
  refine lv_imul hx hb dX5_lays_3 ?_
  rw [pk_mul]
  refine lv_istore_n (lv' := [(2, .int (nI (8 * i))), (0, .ref (xa 20 0)), (1, .int (nI (i)))]) hx hb dX5_lays_4 rfl hl (by decide) rfl (fun ls hl => ?_)
  have hl : lv_has ls 5 [(0, .ref (xa 20 0)), (1, .int (nI (i))), (2, .int (nI (8 * i)))] := lv_sub hl [1, 2, 0] rfl
  refine lv_iconst (v := nI (0)) hx hb dX5_lays_5 (by decide +kernel) ?_
  refine lv_istore_n (lv' := [(3, .int (nI (0))), (0, .ref (xa 20 0)), (1, .int (nI (i))), (2, .int (nI (8 * i)))]) hx hb dX5_lays_6 rfl hl (by decide) rfl (fun ls hl => ?_)
  have hl : lv_has ls 5 [(0, .ref (xa 20 0)), (1, .int (nI (i))), (2, .int (nI (8 * i))), (3, .int (nI (0)))] := lv_sub hl [1, 2, 3, 0] rfl
  refine x_loop (X := Nat × (Nat → Nat)) (I := fun n xv H locs ls => n = σ 11 i - xv.1 ∧ xW D sa A s xa (mG G0 D xa σ (xv.2) la) H locs ∧ lv_has ls 5 [(0, .ref (xa 20 0)), (1, .int (nI (i))), (2, .int (nI (8 * i))), (3, .int (nI (xv.1)))] ∧ (∀ q, q < xv.1 → xv.2 q = od (yrs σ i) xv.1 q) ∧ (xv.1 ≤ σ 11 i)) (hd := 7) ?_ (n := _) (x := (0, ρ)) ⟨rfl, hW, hl, by intro q hq; omega, by (try dsimp only); omega⟩
  rintro n ⟨k, ρ1⟩ H locs ls ⟨hn, hW, hl, hρ, hk⟩ ihO
  try dsimp only at hn hW hl hρ hk
  refine lv_iload_n hx hb dX5_lays_7 rfl (lv_at hl 3 rfl) ?_
  refine lv_aload_n hx hb dX5_lays_8 rfl (lv_at hl 0 rfl) ?_
  refine m_get hx hb hts hin5 hown hW 11 (by decide) rfl (hts (.fieldLink RX5 39 "RestitutoryModel" "stationMany" "[I") (by decide +kernel)) (v := .ref (xa 20 11)) rfl dX5_lays_9 ?_
  refine lv_iload_n hx hb dX5_lays_12 rfl (lv_at hl 1 rfl) ?_
  refine m_ild hx hb hW 11 10 (by unfold mArr; decide) rfl rfl (i) (by omega) (v := σ 11 i) rfl dX5_lays_13 ?_
  have b_13 := hB 11 (i)
  refine lv_icmp_ge (tgt := 88) hx hb dX5_lays_14 (by decide) (fun c_14 => ?_) (fun c_14 => ?_)
  · -- ge taken
    have c_14 := Int32.le_iff_toInt_le.mp c_14
    rw [nI_toInt (n := k) (by omega)] at c_14
    rw [nI_toInt (n := σ 11 i) (by omega)] at c_14
    refine lv_aload_n hx hb dX5_lays_88 rfl (lv_at hl 0 rfl) ?_
    refine m_get hx hb hts hin5 hown hW 11 (by decide) rfl (hts (.fieldLink RX5 39 "RestitutoryModel" "stationMany" "[I") (by decide +kernel)) (v := .ref (xa 20 11)) rfl dX5_lays_89 ?_
    refine lv_iload_n hx hb dX5_lays_92 rfl (lv_at hl 1 rfl) ?_
    refine m_ild hx hb hW 11 10 (by unfold mArr; decide) rfl rfl (i) (by omega) (v := σ 11 i) rfl dX5_lays_93 ?_
    have b_93 := hB 11 (i)
    exact xe_i hx hb hr rfl hlocks hW ⟨ρ1, rfl, rfl, fun q hq => by unfold ordr; rw [hρ q (by omega), show k = σ 11 i by omega]⟩ (Nat.le_refl _) (Nat.le_refl _) dX5_lays_94
  · -- ge not
    have c_14 : ¬ ((nI (σ 11 i)).toInt ≤ (nI (k)).toInt) := fun h => c_14 (Int32.le_iff_toInt_le.mpr h)
    rw [nI_toInt (n := k) (by omega)] at c_14
    rw [nI_toInt (n := σ 11 i) (by omega)] at c_14
    have h8 := hs8 i
    refine lv_iload_n hx hb dX5_lays_17 rfl (lv_at hl 3 rfl) ?_
    refine lv_istore (lv' := [(4, .int (nI (k))), (0, .ref (xa 20 0)), (1, .int (nI (i))), (2, .int (nI (8 * i))), (3, .int (nI (k)))]) hx hb dX5_lays_18 hl (by decide) rfl (fun ls hl => ?_)
    have hl : lv_has ls 5 [(0, .ref (xa 20 0)), (1, .int (nI (i))), (2, .int (nI (8 * i))), (3, .int (nI (k))), (4, .int (nI (k)))] := lv_sub hl [1, 2, 3, 4, 0] rfl
    refine x_loop (X := Nat × (Nat → Nat)) (I := fun n xv H locs ls => n = xv.1 ∧ xW D sa A s xa (mG G0 D xa σ (xv.2) la) H locs ∧ lv_has ls 5 [(0, .ref (xa 20 0)), (1, .int (nI (i))), (2, .int (nI (8 * i))), (3, .int (nI (k))), (4, .int (nI (xv.1)))] ∧ (∀ q, q < xv.1 → xv.2 q = od (yrs σ i) k q) ∧ (∀ q, xv.1 < q → q ≤ k → xv.2 q = od (yrs σ i) k (q - 1)) ∧ (xv.1 ≤ k) ∧ (ipl (yrs σ i) (od (yrs σ i) k) (yrs σ i k) k = ipl (yrs σ i) (od (yrs σ i) k) (yrs σ i k) xv.1)) (hd := 20) ?_ (n := _) (x := (k, ρ1)) ⟨rfl, hW, hl, hρ, by intro q h1 h2; omega, by (try dsimp only); omega, rfl⟩
    rintro n ⟨a, ρ2⟩ H locs ls ⟨hn, hW, hl, hA, hQ, hat, hC⟩ ihI
    try dsimp only at hn hW hl hA hQ hat hC
    refine lv_iload hx hb dX5_lays_20 (lv_at hl 4 rfl) ?_
    refine lv_if_le (tgt := 74) hx hb dX5_lays_22 (by decide) (fun c_22 => ?_) (fun c_22 => ?_)
    · -- le taken
      have c_22 := Int32.le_iff_toInt_le.mp c_22
      rw [nI_toInt (n := a) (by omega)] at c_22
      rw [x_t0] at c_22
      refine lv_aload_n hx hb dX5_lays_74 rfl (lv_at hl 0 rfl) ?_
      refine m_get hx hb hts hin5 hown hW 19 (by decide) rfl (hts (.fieldLink RX5 60 "RestitutoryModel" "order" "[I") (by decide +kernel)) (v := .ref (xa 20 19)) rfl dX5_lays_75 ?_
      refine lv_iload hx hb dX5_lays_78 (lv_at hl 4 rfl) ?_
      refine lv_iload_n hx hb dX5_lays_80 rfl (lv_at hl 3 rfl) ?_
      refine m_ost hx hb hW (a) (by omega) (v := k) dX5_lays_81 (fun H locs hW => ?_)
      refine lv_iinc (v := nI (k + 1)) (lv' := [(3, .int (nI (k + 1))), (0, .ref (xa 20 0)), (1, .int (nI (i))), (2, .int (nI (8 * i))), (4, .int (nI (a)))]) hx hb dX5_lays_82 hl (k := 3) rfl (x_inc k 1 rfl) (by decide) rfl (fun ls hl => ?_)
      have hl : lv_has ls 5 [(0, .ref (xa 20 0)), (1, .int (nI (i))), (2, .int (nI (8 * i))), (3, .int (nI (k + 1))), (4, .int (nI (a)))] := lv_sub hl [1, 2, 3, 0, 4] rfl
      refine lv_goto (tgt := 7) hx hb dX5_lays_85 (by decide) ?_
      exact ihO (σ 11 i - (k + 1)) (k + 1, rup ρ2 a k) _ _ _ (by omega) ⟨rfl, hW, lv_sub hl [0, 1, 2, 3] rfl, od_step hat hA hQ (ipl_end hC (Or.inl (by omega))), by (try dsimp only); omega⟩
    · -- le not
      have c_22 : ¬ ((nI (a)).toInt ≤ ((0 : Int32)).toInt) := fun h => c_22 (Int32.le_iff_toInt_le.mpr h)
      rw [nI_toInt (n := a) (by omega)] at c_22
      rw [x_t0] at c_22
      have o1 := hA (a - 1) (by omega)
      have o2 := od_lt (yr := yrs σ i) (n := k) (q := a - 1) (by omega)
      have h8 := hs8 i
      refine lv_aload_n hx hb dX5_lays_25 rfl (lv_at hl 0 rfl) ?_
      refine m_get hx hb hts hin5 hown hW 16 (by decide) rfl (hts (.fieldLink RX5 51 "RestitutoryModel" "years" "[I") (by decide +kernel)) (v := .ref (xa 20 16)) rfl dX5_lays_26 ?_
      refine lv_iload_n hx hb dX5_lays_29 rfl (lv_at hl 2 rfl) ?_
      refine lv_aload_n hx hb dX5_lays_30 rfl (lv_at hl 0 rfl) ?_
      refine m_get hx hb hts hin5 hown hW 19 (by decide) rfl (hts (.fieldLink RX5 60 "RestitutoryModel" "order" "[I") (by decide +kernel)) (v := .ref (xa 20 19)) rfl dX5_lays_31 ?_
      refine lv_iload hx hb dX5_lays_34 (lv_at hl 4 rfl) ?_
      refine lv_iconst (v := nI (1)) hx hb dX5_lays_36 (by decide +kernel) ?_
      refine lv_isub hx hb dX5_lays_37 ?_
      rw [pk_sub (a := a) (b := 1) (by omega)]
      refine m_old hx hb hW (a - 1) (by omega) (v := od (yrs σ i) k (a - 1)) (hA _ (by omega)) dX5_lays_38 ?_
      refine lv_iadd hx hb dX5_lays_39 ?_
      rw [nI_add]
      refine m_ild hx hb hW 16 80 (by unfold mArr; decide) rfl rfl ((8 * i) + (od (yrs σ i) k (a - 1))) (by omega) (v := σ 16 ((8 * i) + (od (yrs σ i) k (a - 1)))) rfl dX5_lays_40 ?_
      have b_40 := hB 16 ((8 * i) + (od (yrs σ i) k (a - 1)))
      refine lv_aload_n hx hb dX5_lays_41 rfl (lv_at hl 0 rfl) ?_
      refine m_get hx hb hts hin5 hown hW 16 (by decide) rfl (hts (.fieldLink RX5 51 "RestitutoryModel" "years" "[I") (by decide +kernel)) (v := .ref (xa 20 16)) rfl dX5_lays_42 ?_
      refine lv_iload_n hx hb dX5_lays_45 rfl (lv_at hl 2 rfl) ?_
      refine lv_iload_n hx hb dX5_lays_46 rfl (lv_at hl 3 rfl) ?_
      refine lv_iadd hx hb dX5_lays_47 ?_
      rw [nI_add]
      refine m_ild hx hb hW 16 80 (by unfold mArr; decide) rfl rfl ((8 * i) + k) (by omega) (v := σ 16 ((8 * i) + k)) rfl dX5_lays_48 ?_
      have b_48 := hB 16 ((8 * i) + k)
      refine lv_icmp_le (tgt := 74) hx hb dX5_lays_49 (by decide) (fun c_49 => ?_) (fun c_49 => ?_)
      · -- le taken
        have c_49 := Int32.le_iff_toInt_le.mp c_49
        rw [nI_toInt (n := σ 16 ((8 * i) + (od (yrs σ i) k (a - 1)))) (by omega)] at c_49
        rw [nI_toInt (n := σ 16 ((8 * i) + k)) (by omega)] at c_49
        refine lv_aload_n hx hb dX5_lays_74 rfl (lv_at hl 0 rfl) ?_
        refine m_get hx hb hts hin5 hown hW 19 (by decide) rfl (hts (.fieldLink RX5 60 "RestitutoryModel" "order" "[I") (by decide +kernel)) (v := .ref (xa 20 19)) rfl dX5_lays_75 ?_
        refine lv_iload hx hb dX5_lays_78 (lv_at hl 4 rfl) ?_
        refine lv_iload_n hx hb dX5_lays_80 rfl (lv_at hl 3 rfl) ?_
        refine m_ost hx hb hW (a) (by omega) (v := k) dX5_lays_81 (fun H locs hW => ?_)
        refine lv_iinc (v := nI (k + 1)) (lv' := [(3, .int (nI (k + 1))), (0, .ref (xa 20 0)), (1, .int (nI (i))), (2, .int (nI (8 * i))), (4, .int (nI (a)))]) hx hb dX5_lays_82 hl (k := 3) rfl (x_inc k 1 rfl) (by decide) rfl (fun ls hl => ?_)
        have hl : lv_has ls 5 [(0, .ref (xa 20 0)), (1, .int (nI (i))), (2, .int (nI (8 * i))), (3, .int (nI (k + 1))), (4, .int (nI (a)))] := lv_sub hl [1, 2, 3, 0, 4] rfl
        refine lv_goto (tgt := 7) hx hb dX5_lays_85 (by decide) ?_
        exact ihO (σ 11 i - (k + 1)) (k + 1, rup ρ2 a k) _ _ _ (by omega) ⟨rfl, hW, lv_sub hl [0, 1, 2, 3] rfl, od_step hat hA hQ (ipl_end hC (Or.inr (show ¬ σ 16 (8 * i + k) < σ 16 (8 * i + od (yrs σ i) k (a - 1)) by omega))), by (try dsimp only); omega⟩
      · -- le not
        have c_49 : ¬ ((nI (σ 16 ((8 * i) + (od (yrs σ i) k (a - 1))))).toInt ≤ (nI (σ 16 ((8 * i) + k))).toInt) := fun h => c_49 (Int32.le_iff_toInt_le.mpr h)
        rw [nI_toInt (n := σ 16 ((8 * i) + (od (yrs σ i) k (a - 1)))) (by omega)] at c_49
        rw [nI_toInt (n := σ 16 ((8 * i) + k)) (by omega)] at c_49
        refine lv_aload_n hx hb dX5_lays_52 rfl (lv_at hl 0 rfl) ?_
        refine m_get hx hb hts hin5 hown hW 19 (by decide) rfl (hts (.fieldLink RX5 60 "RestitutoryModel" "order" "[I") (by decide +kernel)) (v := .ref (xa 20 19)) rfl dX5_lays_53 ?_
        refine lv_iload hx hb dX5_lays_56 (lv_at hl 4 rfl) ?_
        refine lv_aload_n hx hb dX5_lays_58 rfl (lv_at hl 0 rfl) ?_
        refine m_get hx hb hts hin5 hown hW 19 (by decide) rfl (hts (.fieldLink RX5 60 "RestitutoryModel" "order" "[I") (by decide +kernel)) (v := .ref (xa 20 19)) rfl dX5_lays_59 ?_
        refine lv_iload hx hb dX5_lays_62 (lv_at hl 4 rfl) ?_
        refine lv_iconst (v := nI (1)) hx hb dX5_lays_64 (by decide +kernel) ?_
        refine lv_isub hx hb dX5_lays_65 ?_
        rw [pk_sub (a := a) (b := 1) (by omega)]
        refine m_old hx hb hW (a - 1) (by omega) (v := od (yrs σ i) k (a - 1)) (hA _ (by omega)) dX5_lays_66 ?_
        refine m_ost hx hb hW (a) (by omega) (v := od (yrs σ i) k (a - 1)) dX5_lays_67 (fun H locs hW => ?_)
        refine lv_iinc (v := nI (a - 1)) (lv' := [(4, .int (nI (a - 1))), (0, .ref (xa 20 0)), (1, .int (nI (i))), (2, .int (nI (8 * i))), (3, .int (nI (k)))]) hx hb dX5_lays_68 hl (k := 4) rfl (x_dec (a := a) (by omega)) (by decide) rfl (fun ls hl => ?_)
        have hl : lv_has ls 5 [(0, .ref (xa 20 0)), (1, .int (nI (i))), (2, .int (nI (8 * i))), (3, .int (nI (k))), (4, .int (nI (a - 1)))] := lv_sub hl [1, 2, 3, 4, 0] rfl
        refine lv_goto (tgt := 20) hx hb dX5_lays_71 (by decide) ?_
        have hsh := od_shift (by omega) hA hQ
        exact ihI ((a - 1)) (a - 1, rup ρ2 a (od (yrs σ i) k (a - 1))) _ _ _ (by omega) ⟨rfl, hW, hl, hsh.1, hsh.2, by (try dsimp only); omega, ipl_go hC (by omega) (show σ 16 (8 * i + k) < σ 16 (8 * i + od (yrs σ i) k (a - 1)) by omega)⟩

set_option maxHeartbeats 4000000 in
set_option maxRecDepth 100000 in
theorem c_X5_stationAt (l : Launch) (D : xD) (sa : Nat → Nat) (xa : xA) (G0 : xG) (σ : Sg) (ρ : Nat → Nat) (la : Nat) (hg : Gd σ) (t q : Int32) : xCi l yX5_stationAt wsX5_stationAt ({ frames := 18, cells := 0, slots := 0, locals := 600 } : Room) D sa xa (mG G0 D xa σ ρ la) [.ref (xa 20 0), .int t, .int q] (fun r u => ∃ k ρ1, gk (pT σ t ∧ 0 ≤ q.toInt) True True k ∧ u = (xa, mG G0 D xa σ ρ1 k) ∧ (k = 0 → r = oi (if xn q < σ 11 (xn t) then some (ordr σ (xn t) (xn q)) else none))) 0 0 := by
  have hB := hg.1
  have h5 := hg.2.1.1
  have h7 := hg.2.1.2.1
  have h12 := hg.2.1.2.2.1
  have hy0 := hg.2.1.2.2.2.1
  have hy1 := hg.2.1.2.2.2.2
  have hm := hg.hm
  have hs8 := hg.hs8
  intro sz
  refine Met.ofW (cc := cX5_stationAt) (maxL := 3) (ret := (some .int)) (by decide +kernel) rfl ?_
  intro p e s m args below meth c s₁ B hml hv
  obtain ⟨rfl, hsz, hv2⟩ := hv
  subst hsz
  have hx := B.exec
  have hb := B.bytes
  have hr := B.returns
  have hts := atoms_spec (ws := wsX5_stationAt) B.pre
  have hown : s.vm.findClass RX5 = some m.cls := findClass_of_methodNamed B.named
  have hlocks := B.notSynchronized
  have hin5 : ∀ w ∈ wsX50, w ∈ wsX5_stationAt := by decide +kernel
  have hW := xW.start (s := s) ⟨rfl, hv2⟩
  clear hv2
  generalize xAw xa (mG G0 D xa σ ρ la) s.heap.size = A at hW ⊢
  have hl := lv_entry ([.ref (xa 20 0), .int (t), .int (q)]) (n := 3) (Nat.le_of_ble_eq_true rfl)
  rw [lg_entry_eq]
  generalize (lg_sl ([.ref (xa 20 0), .int (t), .int (q)]) ++ List.replicate (3 - (lg_sl ([.ref (xa 20 0), .int (t), .int (q)])).length) Slot.unset).toArray = ls at hl ⊢
  have hl : lv_has ls 3 [(0, .ref (xa 20 0)), (1, .int (t)), (2, .int (q))] := hl
  refine lv_aload_n hx hb dX5_stationAt_0 rfl (lv_at hl 0 rfl) ?_
  refine x_joinW (ls := ls) (D := D) (sa := sa) (A := A) (xa := xa) (G := mG G0 D xa σ ρ la) (P := pT σ t ∧ 0 ≤ q.toInt) (mpc := 18) (rest := [.ref (xa 20 0)]) (fun H locs r_18 hW h_18 => ?_) (fun J18 => ?_)
  ·
    refine lv_iconst (v := nI (1)) hx hb dX5_stationAt_18 (by decide +kernel) ?_
    refine lv_iconst (v := nI (1)) hx hb dX5_stationAt_19 (by decide +kernel) ?_
    refine xv_i (As := [.int (r_18), .int (nI (1)), .int (nI (1))]) (rest := []) ⟨hx, hb, hml, hown, hts⟩ (c_X5_goes l D sa xa G0 σ ρ la hB h_18 (tv.one trivial) (tv.one trivial)) (cwV 3 hts gX5_stationAt_X5_goes rfl rfl rfl (by decide +kernel) ⟨Nat.le_of_ble_eq_true rfl, Nat.le_of_ble_eq_true rfl⟩) hW (mG_obj _ _ _ _ _ _) rfl rfl rfl rfl hl.1 (Nat.le_of_ble_eq_true rfl) dX5_stationAt_20 ⟨Nat.le_of_ble_eq_true rfl, Nat.le_of_ble_eq_true rfl⟩ (fun r_20 xa1 G1 H locs hp hW => ?_)
    obtain ⟨la1, hu, hr_20, hk⟩ := hp
    cases hu
    refine lv_if_ne (tgt := 28) hx hb dX5_stationAt_23 (by decide) (fun c_23 => ?_) (fun c_23 => ?_)
    · -- ne taken
      have c_23 := hr_20.t c_23
      subst c_23
      obtain ⟨hz1, hz2, hz3⟩ := hk.zero
      have hu_ti := hz1.1
      unfold pT at hu_ti
      obtain ⟨ti, hti, rfl⟩ := x_nat (n := σ 12 0) (x := t) (by omega) (by omega)
      have hq0 := hz1.2
      obtain ⟨qi, hqi, rfl⟩ := x_nat (n := 2147483648) (x := q) (by omega) (by have := q.toInt_lt; omega)
      refine lv_iload_n hx hb dX5_stationAt_28 rfl (lv_at hl 2 rfl) ?_
      refine lv_aload_n hx hb dX5_stationAt_29 rfl (lv_at hl 0 rfl) ?_
      refine lv_iload_n hx hb dX5_stationAt_30 rfl (lv_at hl 1 rfl) ?_
      refine xv_i (As := [.int (nI (ti))]) (rest := [.int (nI (qi))]) ⟨hx, hb, hml, hown, hts⟩ (c_X5_lays l D sa xa G0 σ ρ 0 hg ti (by omega)) (cwV 1 hts gX5_stationAt_X5_lays rfl rfl rfl (by decide +kernel) ⟨Nat.le_of_ble_eq_true rfl, Nat.le_of_ble_eq_true rfl⟩) hW (mG_obj _ _ _ _ _ _) rfl rfl rfl rfl hl.1 (Nat.le_of_ble_eq_true rfl) dX5_stationAt_31 ⟨Nat.le_of_ble_eq_true rfl, Nat.le_of_ble_eq_true rfl⟩ (fun r_31 xa1 G1 H locs hp hW => ?_)
      obtain ⟨ρl1, hu, hr_31, hoρl1⟩ := hp
      cases hu
      subst hr_31
      have h8 := hs8 ti
      refine lv_icmp_ge (tgt := 46) hx hb dX5_stationAt_34 (by decide) (fun c_34 => ?_) (fun c_34 => ?_)
      · -- ge taken
        have c_34 := Int32.le_iff_toInt_le.mp c_34
        rw [nI_toInt (n := qi) (by omega)] at c_34
        rw [nI_toInt (n := σ 11 ti) (by omega)] at c_34
        refine lv_iconst (v := -1) hx hb dX5_stationAt_46 (by decide +kernel) ?_
        exact xe_i hx hb hr rfl hlocks hW ⟨0, ρl1, hk, rfl, fun _ => by rw [xn_nI (by omega), xn_nI (by omega)]; rw [if_neg (by omega)]; rfl⟩ (Nat.le_refl _) (Nat.le_refl _) dX5_stationAt_47
      · -- ge not
        have c_34 : ¬ ((nI (σ 11 ti)).toInt ≤ (nI (qi)).toInt) := fun h => c_34 (Int32.le_iff_toInt_le.mpr h)
        rw [nI_toInt (n := qi) (by omega)] at c_34
        rw [nI_toInt (n := σ 11 ti) (by omega)] at c_34
        refine lv_aload_n hx hb dX5_stationAt_37 rfl (lv_at hl 0 rfl) ?_
        refine m_get hx hb hts hin5 hown hW 19 (by decide) rfl (hts (.fieldLink RX5 60 "RestitutoryModel" "order" "[I") (by decide +kernel)) (v := .ref (xa 20 19)) rfl dX5_stationAt_38 ?_
        refine lv_iload_n hx hb dX5_stationAt_41 rfl (lv_at hl 2 rfl) ?_
        refine m_old hx hb hW (qi) (by omega) (v := ordr σ ti qi) (hoρl1 _ (by omega)) dX5_stationAt_42 ?_
        have o_42 := ordr_lt (σ := σ) (i := ti) (q := qi) (by omega)
        refine lv_goto (tgt := 47) hx hb dX5_stationAt_43 (by decide) ?_
        exact xe_i hx hb hr rfl hlocks hW ⟨0, ρl1, hk, rfl, fun _ => by rw [xn_nI (by omega), xn_nI (by omega)]; rw [if_pos (by omega)]; rfl⟩ (Nat.le_refl _) (Nat.le_refl _) dX5_stationAt_47
    · -- ne not
      have c_23 := hr_20.f c_23
      refine lv_iconst (v := nI (0)) hx hb dX5_stationAt_26 (by decide +kernel) ?_
      exact xe_i hx hb hr rfl hlocks hW ⟨la1, ρ, hk, rfl, fun h => absurd h c_23⟩ (Nat.le_refl _) (Nat.le_refl _) dX5_stationAt_27
  ·
    refine lv_aload_n hx hb dX5_stationAt_1 rfl (lv_at hl 0 rfl) ?_
    refine lv_iload_n hx hb dX5_stationAt_2 rfl (lv_at hl 1 rfl) ?_
    refine xv_i (As := [.int (t)]) (rest := [.ref (xa 20 0)]) ⟨hx, hb, hml, hown, hts⟩ (c_X5_isThing l D sa xa G0 σ ρ la hB t) (cwV 1 hts gX5_stationAt_X5_isThing rfl rfl rfl (by decide +kernel) ⟨Nat.le_of_ble_eq_true rfl, Nat.le_of_ble_eq_true rfl⟩) hW (mG_obj _ _ _ _ _ _) rfl rfl rfl rfl hl.1 (Nat.le_of_ble_eq_true rfl) dX5_stationAt_3 ⟨Nat.le_of_ble_eq_true rfl, Nat.le_of_ble_eq_true rfl⟩ (fun r_3 xa1 G1 H locs hp hW => ?_)
    obtain ⟨hu, hr_3⟩ := hp
    cases hu
    refine lv_if_eq (tgt := 17) hx hb dX5_stationAt_6 (by decide) (fun c_6 => ?_) (fun c_6 => ?_)
    · -- eq taken
      have c_6 := hr_3.f c_6
      refine lv_iconst (v := nI (0)) hx hb dX5_stationAt_17 (by decide +kernel) ?_
      exact J18 _ _ _ hW (tv.zero (by first | exact fun h => c_6 h.1 | (intro h; have := h.2; omega)))
    · -- eq not
      have c_6 := hr_3.t c_6
      refine lv_iload_n hx hb dX5_stationAt_9 rfl (lv_at hl 2 rfl) ?_
      refine lv_if_lt (tgt := 17) hx hb dX5_stationAt_10 (by decide) (fun c_10 => ?_) (fun c_10 => ?_)
      · -- lt taken
        have c_10 := Int32.lt_iff_toInt_lt.mp c_10
        rw [x_t0] at c_10
        refine lv_iconst (v := nI (0)) hx hb dX5_stationAt_17 (by decide +kernel) ?_
        exact J18 _ _ _ hW (tv.zero (by first | exact fun h => c_6 h.1 | (intro h; have := h.2; omega)))
      · -- lt not
        have c_10 : ¬ ((q).toInt < ((0 : Int32)).toInt) := fun h => c_10 (Int32.lt_iff_toInt_lt.mpr h)
        rw [x_t0] at c_10
        refine lv_iconst (v := nI (1)) hx hb dX5_stationAt_13 (by decide +kernel) ?_
        refine lv_goto (tgt := 18) hx hb dX5_stationAt_14 (by decide) ?_
        exact J18 _ _ _ hW (tv.one (⟨c_6, by omega⟩))

set_option maxHeartbeats 4000000 in
set_option maxRecDepth 100000 in
theorem c_X5_loses (l : Launch) (D : xD) (sa : Nat → Nat) (xa : xA) (G0 : xG) (σ : Sg) (ρ : Nat → Nat) (la : Nat) (hg : Gd σ) (i q : Nat) (hi : i < σ 12 0) (hq : q < σ 11 i) (hρ : ∀ q, q < σ 11 i → ρ q = ordr σ i q) : mRd l yX5_loses wsX5_loses ({ frames := 14, cells := 0, slots := 0, locals := 400 } : Room) D sa xa G0 σ ρ la [.int (nI i), .int (nI q)] (fun r => tv r (lossO σ i (ordr σ i) q)) := by
  have hB := hg.1
  have h5 := hg.2.1.1
  have h7 := hg.2.1.2.1
  have h12 := hg.2.1.2.2.1
  have hy0 := hg.2.1.2.2.2.1
  have hy1 := hg.2.1.2.2.2.2
  have hm := hg.hm
  have hs8 := hg.hs8
  intro sz
  refine Met.ofW (cc := cX5_loses) (maxL := 5) (ret := (some .boolean)) (by decide +kernel) rfl ?_
  intro p e s m args below meth c s₁ B hml hv
  obtain ⟨rfl, hsz, hv2⟩ := hv
  subst hsz
  have hx := B.exec
  have hb := B.bytes
  have hr := B.returns
  have hts := atoms_spec (ws := wsX5_loses) B.pre
  have hown : s.vm.findClass RX5 = some m.cls := findClass_of_methodNamed B.named
  have hlocks := B.notSynchronized
  have hin5 : ∀ w ∈ wsX50, w ∈ wsX5_loses := by decide +kernel
  have hW := xW.start (s := s) ⟨rfl, hv2⟩
  clear hv2
  generalize xAw xa (mG G0 D xa σ ρ la) s.heap.size = A at hW ⊢
  have hl := lv_entry ([.ref (xa 20 0), .int (nI (i)), .int (nI (q))]) (n := 5) (Nat.le_of_ble_eq_true rfl)
  rw [lg_entry_eq]
  generalize (lg_sl ([.ref (xa 20 0), .int (nI (i)), .int (nI (q))]) ++ List.replicate (5 - (lg_sl ([.ref (xa 20 0), .int (nI (i)), .int (nI (q))])).length) Slot.unset).toArray = ls at hl ⊢
  have hl : lv_has ls 5 [(0, .ref (xa 20 0)), (1, .int (nI (i))), (2, .int (nI (q)))] := hl
  have hst := fun k hk => (hg.2.2.2.2.1 i hi).2.2 k hk
  have h8 := hs8 i
  refine lv_iload_n hx hb dX5_loses_0 rfl (lv_at hl 2 rfl) ?_
  refine lv_if_ne (tgt := 6) hx hb dX5_loses_1 (by decide) (fun c_1 => ?_) (fun c_1 => ?_)
  · -- ne taken
    have c_1 : ¬ (q = 0) := fun h_ => c_1 ((x_eqZ (a := q) (by omega)).mpr h_)
    refine lv_bipush (v := nI (8)) hx hb dX5_loses_6 (by decide +kernel) ?_
    refine lv_iload_n hx hb dX5_loses_8 rfl (lv_at hl 1 rfl) ?_
    refine lv_imul hx hb dX5_loses_9 ?_
    rw [pk_mul]
    refine lv_aload_n hx hb dX5_loses_10 rfl (lv_at hl 0 rfl) ?_
    refine m_get hx hb hts hin5 hown hW 19 (by decide) rfl (hts (.fieldLink RX5 60 "RestitutoryModel" "order" "[I") (by decide +kernel)) (v := .ref (xa 20 19)) rfl dX5_loses_11 ?_
    refine lv_iload_n hx hb dX5_loses_14 rfl (lv_at hl 2 rfl) ?_
    refine m_old hx hb hW (q) (by omega) (v := ordr σ i q) (hρ _ (by omega)) dX5_loses_15 ?_
    have o_15 := ordr_lt (σ := σ) (i := i) (q := q) (by omega)
    refine lv_iadd hx hb dX5_loses_16 ?_
    rw [nI_add]
    refine lv_istore_n (lv' := [(3, .int (nI ((8 * i) + (ordr σ i q)))), (0, .ref (xa 20 0)), (1, .int (nI (i))), (2, .int (nI (q)))]) hx hb dX5_loses_17 rfl hl (by decide) rfl (fun ls hl => ?_)
    have hl : lv_has ls 5 [(0, .ref (xa 20 0)), (1, .int (nI (i))), (2, .int (nI (q))), (3, .int (nI ((8 * i) + (ordr σ i q))))] := lv_sub hl [1, 2, 3, 0] rfl
    refine lv_aload_n hx hb dX5_loses_18 rfl (lv_at hl 0 rfl) ?_
    refine m_get hx hb hts hin5 hown hW 13 (by decide) rfl (hts (.fieldLink RX5 42 "RestitutoryModel" "parties" "[I") (by decide +kernel)) (v := .ref (xa 20 13)) rfl dX5_loses_19 ?_
    refine lv_bipush (v := nI (8)) hx hb dX5_loses_22 (by decide +kernel) ?_
    refine lv_iload_n hx hb dX5_loses_24 rfl (lv_at hl 1 rfl) ?_
    refine lv_imul hx hb dX5_loses_25 ?_
    rw [pk_mul]
    refine lv_aload_n hx hb dX5_loses_26 rfl (lv_at hl 0 rfl) ?_
    refine m_get hx hb hts hin5 hown hW 19 (by decide) rfl (hts (.fieldLink RX5 60 "RestitutoryModel" "order" "[I") (by decide +kernel)) (v := .ref (xa 20 19)) rfl dX5_loses_27 ?_
    refine lv_iload_n hx hb dX5_loses_30 rfl (lv_at hl 2 rfl) ?_
    refine lv_iconst (v := nI (1)) hx hb dX5_loses_31 (by decide +kernel) ?_
    refine lv_isub hx hb dX5_loses_32 ?_
    rw [pk_sub (a := q) (b := 1) (by omega)]
    refine m_old hx hb hW (q - 1) (by omega) (v := ordr σ i (q - 1)) (hρ _ (by omega)) dX5_loses_33 ?_
    have o_33 := ordr_lt (σ := σ) (i := i) (q := q - 1) (by omega)
    refine lv_iadd hx hb dX5_loses_34 ?_
    rw [nI_add]
    refine m_ild hx hb hW 13 80 (by unfold mArr; decide) rfl rfl ((8 * i) + (ordr σ i (q - 1))) (by omega) (v := σ 13 ((8 * i) + (ordr σ i (q - 1)))) rfl dX5_loses_35 ?_
    have b_35 := hB 13 ((8 * i) + (ordr σ i (q - 1)))
    have hpt := (hst _ o_33).1
    refine lv_istore (lv' := [(4, .int (nI (σ 13 ((8 * i) + (ordr σ i (q - 1)))))), (0, .ref (xa 20 0)), (1, .int (nI (i))), (2, .int (nI (q))), (3, .int (nI ((8 * i) + (ordr σ i q))))]) hx hb dX5_loses_36 hl (by decide) rfl (fun ls hl => ?_)
    have hl : lv_has ls 5 [(0, .ref (xa 20 0)), (1, .int (nI (i))), (2, .int (nI (q))), (3, .int (nI ((8 * i) + (ordr σ i q)))), (4, .int (nI (σ 13 ((8 * i) + (ordr σ i (q - 1))))))] := lv_sub hl [1, 2, 3, 4, 0] rfl
    refine lv_aload_n hx hb dX5_loses_38 rfl (lv_at hl 0 rfl) ?_
    refine m_get hx hb hts hin5 hown hW 14 (by decide) rfl (hts (.fieldLink RX5 45 "RestitutoryModel" "kinds" "[I") (by decide +kernel)) (v := .ref (xa 20 14)) rfl dX5_loses_39 ?_
    refine lv_iload_n hx hb dX5_loses_42 rfl (lv_at hl 3 rfl) ?_
    refine m_ild hx hb hW 14 80 (by unfold mArr; decide) rfl rfl ((8 * i) + (ordr σ i q)) (by omega) (v := σ 14 ((8 * i) + (ordr σ i q))) rfl dX5_loses_43 ?_
    have b_43 := hB 14 ((8 * i) + (ordr σ i q))
    refine lv_iconst (v := nI (3)) hx hb dX5_loses_44 (by decide +kernel) ?_
    refine lv_icmp_ge (tgt := 92) hx hb dX5_loses_45 (by decide) (fun c_45 => ?_) (fun c_45 => ?_)
    · -- ge taken
      have c_45 := Int32.le_iff_toInt_le.mp c_45
      rw [nI_toInt (n := σ 14 ((8 * i) + (ordr σ i q))) (by omega)] at c_45
      rw [nI_toInt (n := 3) (by omega)] at c_45
      refine lv_iconst (v := nI (1)) hx hb dX5_loses_92 (by decide +kernel) ?_
      refine lv_goto (tgt := 97) hx hb dX5_loses_93 (by decide) ?_
      exact xe_i hx hb hr rfl hlocks hW ⟨rfl, tv.one ⟨c_1, Or.inl (by omega)⟩⟩ (Nat.le_refl _) (Nat.le_refl _) dX5_loses_97
    · -- ge not
      have c_45 : ¬ ((nI (3)).toInt ≤ (nI (σ 14 ((8 * i) + (ordr σ i q)))).toInt) := fun h => c_45 (Int32.le_iff_toInt_le.mpr h)
      rw [nI_toInt (n := σ 14 ((8 * i) + (ordr σ i q))) (by omega)] at c_45
      rw [nI_toInt (n := 3) (by omega)] at c_45
      refine lv_aload_n hx hb dX5_loses_48 rfl (lv_at hl 0 rfl) ?_
      refine m_get hx hb hts hin5 hown hW 14 (by decide) rfl (hts (.fieldLink RX5 45 "RestitutoryModel" "kinds" "[I") (by decide +kernel)) (v := .ref (xa 20 14)) rfl dX5_loses_49 ?_
      refine lv_iload_n hx hb dX5_loses_52 rfl (lv_at hl 3 rfl) ?_
      refine m_ild hx hb hW 14 80 (by unfold mArr; decide) rfl rfl ((8 * i) + (ordr σ i q)) (by omega) (v := σ 14 ((8 * i) + (ordr σ i q))) rfl dX5_loses_53 ?_
      have b_53 := hB 14 ((8 * i) + (ordr σ i q))
      refine lv_if_ne (tgt := 96) hx hb dX5_loses_54 (by decide) (fun c_54 => ?_) (fun c_54 => ?_)
      · -- ne taken
        have c_54 : ¬ (σ 14 ((8 * i) + (ordr σ i q)) = 0) := fun h_ => c_54 ((x_eqZ (a := σ 14 ((8 * i) + (ordr σ i q))) (by omega)).mpr h_)
        refine lv_iconst (v := nI (0)) hx hb dX5_loses_96 (by decide +kernel) ?_
        exact xe_i hx hb hr rfl hlocks hW ⟨rfl, tv.zero (fun h => h.2.elim (fun h1 => by omega) (fun h1 => c_54 h1.1))⟩ (Nat.le_refl _) (Nat.le_refl _) dX5_loses_97
      · -- ne not
        have c_54 := (x_eqZ (a := σ 14 ((8 * i) + (ordr σ i q))) (by omega)).mp c_54
        refine lv_aload_n hx hb dX5_loses_57 rfl (lv_at hl 0 rfl) ?_
        refine m_get hx hb hts hin5 hown hW 17 (by decide) rfl (hts (.fieldLink RX5 54 "RestitutoryModel" "rebutted" "[Z") (by decide +kernel)) (v := .ref (xa 20 17)) rfl dX5_loses_58 ?_
        refine lv_iload_n hx hb dX5_loses_61 rfl (lv_at hl 3 rfl) ?_
        refine m_zld hx hb hW 17 80 (by unfold mArr; decide) rfl rfl ((8 * i) + (ordr σ i q)) (by omega) (v := σ 17 ((8 * i) + (ordr σ i q))) rfl dX5_loses_62 ?_
        have b_62 := hB 17 ((8 * i) + (ordr σ i q))
        refine lv_if_ne (tgt := 96) hx hb dX5_loses_63 (by decide) (fun c_63 => ?_) (fun c_63 => ?_)
        · -- ne taken
          have c_63 : ¬ (σ 17 ((8 * i) + (ordr σ i q)) = 0) := fun h_ => c_63 ((x_eqZ (a := σ 17 ((8 * i) + (ordr σ i q))) (by omega)).mpr h_)
          refine lv_iconst (v := nI (0)) hx hb dX5_loses_96 (by decide +kernel) ?_
          exact xe_i hx hb hr rfl hlocks hW ⟨rfl, tv.zero (fun h => h.2.elim (fun h1 => by omega) (fun h1 => c_63 h1.2.1))⟩ (Nat.le_refl _) (Nat.le_refl _) dX5_loses_97
        · -- ne not
          have c_63 := (x_eqZ (a := σ 17 ((8 * i) + (ordr σ i q))) (by omega)).mp c_63
          refine lv_aload_n hx hb dX5_loses_66 rfl (lv_at hl 0 rfl) ?_
          refine lv_aload_n hx hb dX5_loses_67 rfl (lv_at hl 0 rfl) ?_
          refine m_get hx hb hts hin5 hown hW 1 (by decide) rfl (hts (.fieldLink RX5 13 "RestitutoryModel" "groups" "[I") (by decide +kernel)) (v := .ref (xa 20 1)) rfl dX5_loses_68 ?_
          refine lv_iload hx hb dX5_loses_71 (lv_at hl 4 rfl) ?_
          refine m_ild hx hb hW 1 12 (by unfold mArr; decide) rfl rfl (σ 13 ((8 * i) + (ordr σ i (q - 1)))) (by omega) (v := σ 1 (σ 13 ((8 * i) + (ordr σ i (q - 1))))) rfl dX5_loses_73 ?_
          have b_73 := hB 1 (σ 13 ((8 * i) + (ordr σ i (q - 1))))
          refine lv_aload_n hx hb dX5_loses_74 rfl (lv_at hl 0 rfl) ?_
          refine m_get hx hb hts hin5 hown hW 15 (by decide) rfl (hts (.fieldLink RX5 48 "RestitutoryModel" "lands" "[I") (by decide +kernel)) (v := .ref (xa 20 15)) rfl dX5_loses_75 ?_
          refine lv_iload_n hx hb dX5_loses_78 rfl (lv_at hl 3 rfl) ?_
          refine m_ild hx hb hW 15 80 (by unfold mArr; decide) rfl rfl ((8 * i) + (ordr σ i q)) (by omega) (v := σ 15 ((8 * i) + (ordr σ i q))) rfl dX5_loses_79 ?_
          have b_79 := hB 15 ((8 * i) + (ordr σ i q))
          refine lv_aload_n hx hb dX5_loses_80 rfl (lv_at hl 0 rfl) ?_
          refine m_get hx hb hts hin5 hown hW 16 (by decide) rfl (hts (.fieldLink RX5 51 "RestitutoryModel" "years" "[I") (by decide +kernel)) (v := .ref (xa 20 16)) rfl dX5_loses_81 ?_
          refine lv_iload_n hx hb dX5_loses_84 rfl (lv_at hl 3 rfl) ?_
          refine m_ild hx hb hW 16 80 (by unfold mArr; decide) rfl rfl ((8 * i) + (ordr σ i q)) (by omega) (v := σ 16 ((8 * i) + (ordr σ i q))) rfl dX5_loses_85 ?_
          have b_85 := hB 16 ((8 * i) + (ordr σ i q))
          refine xv_i (As := [.int (nI (σ 1 (σ 13 ((8 * i) + (ordr σ i (q - 1)))))), .int (nI (σ 15 ((8 * i) + (ordr σ i q)))), .int (nI (σ 16 ((8 * i) + (ordr σ i q))))]) (rest := []) ⟨hx, hb, hml, hown, hts⟩ (c_X5_persecutes l D sa xa G0 σ ρ la hg (σ 1 (σ 13 ((8 * i) + (ordr σ i (q - 1))))) (σ 15 ((8 * i) + (ordr σ i q))) (σ 16 ((8 * i) + (ordr σ i q))) (by omega) (by omega) (by omega)) (cwV 3 hts gX5_loses_X5_persecutes rfl rfl rfl (by decide +kernel) ⟨Nat.le_of_ble_eq_true rfl, Nat.le_of_ble_eq_true rfl⟩) hW (mG_obj _ _ _ _ _ _) rfl rfl rfl rfl hl.1 (Nat.le_of_ble_eq_true rfl) dX5_loses_86 ⟨Nat.le_of_ble_eq_true rfl, Nat.le_of_ble_eq_true rfl⟩ (fun r_86 xa1 G1 H locs hp hW => ?_)
          obtain ⟨hu, hr_86⟩ := hp
          cases hu
          refine lv_if_eq (tgt := 96) hx hb dX5_loses_89 (by decide) (fun c_89 => ?_) (fun c_89 => ?_)
          · -- eq taken
            have c_89 := hr_86.f c_89
            refine lv_iconst (v := nI (0)) hx hb dX5_loses_96 (by decide +kernel) ?_
            exact xe_i hx hb hr rfl hlocks hW ⟨rfl, tv.zero (fun h => h.2.elim (fun h1 => by omega) (fun h1 => c_89 h1.2.2))⟩ (Nat.le_refl _) (Nat.le_refl _) dX5_loses_97
          · -- eq not
            have c_89 := hr_86.t c_89
            refine lv_iconst (v := nI (1)) hx hb dX5_loses_92 (by decide +kernel) ?_
            refine lv_goto (tgt := 97) hx hb dX5_loses_93 (by decide) ?_
            exact xe_i hx hb hr rfl hlocks hW ⟨rfl, tv.one ⟨c_1, Or.inr ⟨c_54, by omega, c_89⟩⟩⟩ (Nat.le_refl _) (Nat.le_refl _) dX5_loses_97
  · -- ne not
    have c_1 := (x_eqZ (a := q) (by omega)).mp c_1
    refine lv_iconst (v := nI (0)) hx hb dX5_loses_4 (by decide +kernel) ?_
    exact xe_i hx hb hr rfl hlocks hW ⟨rfl, tv.zero (fun h => h.1 c_1)⟩ (Nat.le_refl _) (Nat.le_refl _) dX5_loses_5

set_option maxHeartbeats 4000000 in
set_option maxRecDepth 100000 in
theorem c_X5_isLoss (l : Launch) (D : xD) (sa : Nat → Nat) (xa : xA) (G0 : xG) (σ : Sg) (ρ : Nat → Nat) (la : Nat) (hg : Gd σ) (t x : Int32) : xCi l yX5_isLoss wsX5_isLoss ({ frames := 18, cells := 0, slots := 0, locals := 600 } : Room) D sa xa (mG G0 D xa σ ρ la) [.ref (xa 20 0), .int t, .int x] (fun r u => ∃ k ρ1, gk (pS σ t x) True True k ∧ u = (xa, mG G0 D xa σ ρ1 k) ∧ (k = 0 → tv r (lossT σ (xn t) (xn x)))) 0 0 := by
  have hB := hg.1
  have h5 := hg.2.1.1
  have h7 := hg.2.1.2.1
  have h12 := hg.2.1.2.2.1
  have hy0 := hg.2.1.2.2.2.1
  have hy1 := hg.2.1.2.2.2.2
  have hm := hg.hm
  have hs8 := hg.hs8
  intro sz
  refine Met.ofW (cc := cX5_isLoss) (maxL := 6) (ret := (some .boolean)) (by decide +kernel) rfl ?_
  intro p e s m args below meth c s₁ B hml hv
  obtain ⟨rfl, hsz, hv2⟩ := hv
  subst hsz
  have hx := B.exec
  have hb := B.bytes
  have hr := B.returns
  have hts := atoms_spec (ws := wsX5_isLoss) B.pre
  have hown : s.vm.findClass RX5 = some m.cls := findClass_of_methodNamed B.named
  have hlocks := B.notSynchronized
  have hin5 : ∀ w ∈ wsX50, w ∈ wsX5_isLoss := by decide +kernel
  have hW := xW.start (s := s) ⟨rfl, hv2⟩
  clear hv2
  generalize xAw xa (mG G0 D xa σ ρ la) s.heap.size = A at hW ⊢
  have hl := lv_entry ([.ref (xa 20 0), .int (t), .int (x)]) (n := 6) (Nat.le_of_ble_eq_true rfl)
  rw [lg_entry_eq]
  generalize (lg_sl ([.ref (xa 20 0), .int (t), .int (x)]) ++ List.replicate (6 - (lg_sl ([.ref (xa 20 0), .int (t), .int (x)])).length) Slot.unset).toArray = ls at hl ⊢
  have hl : lv_has ls 6 [(0, .ref (xa 20 0)), (1, .int (t)), (2, .int (x))] := hl
  refine lv_aload_n hx hb dX5_isLoss_0 rfl (lv_at hl 0 rfl) ?_
  refine lv_aload_n hx hb dX5_isLoss_1 rfl (lv_at hl 0 rfl) ?_
  refine lv_iload_n hx hb dX5_isLoss_2 rfl (lv_at hl 1 rfl) ?_
  refine lv_iload_n hx hb dX5_isLoss_3 rfl (lv_at hl 2 rfl) ?_
  refine xv_i (As := [.int (t), .int (x)]) (rest := [.ref (xa 20 0)]) ⟨hx, hb, hml, hown, hts⟩ (c_X5_isStation l D sa xa G0 σ ρ la hB h12 t x) (cwV 2 hts gX5_isLoss_X5_isStation rfl rfl rfl (by decide +kernel) ⟨Nat.le_of_ble_eq_true rfl, Nat.le_of_ble_eq_true rfl⟩) hW (mG_obj _ _ _ _ _ _) rfl rfl rfl rfl hl.1 (Nat.le_of_ble_eq_true rfl) dX5_isLoss_4 ⟨Nat.le_of_ble_eq_true rfl, Nat.le_of_ble_eq_true rfl⟩ (fun r_4 xa1 G1 H locs hp hW => ?_)
  obtain ⟨hu, hr_4⟩ := hp
  cases hu
  refine lv_iconst (v := nI (1)) hx hb dX5_isLoss_7 (by decide +kernel) ?_
  refine lv_iconst (v := nI (1)) hx hb dX5_isLoss_8 (by decide +kernel) ?_
  refine xv_i (As := [.int (r_4), .int (nI (1)), .int (nI (1))]) (rest := []) ⟨hx, hb, hml, hown, hts⟩ (c_X5_goes l D sa xa G0 σ ρ la hB hr_4 (tv.one trivial) (tv.one trivial)) (cwV 3 hts gX5_isLoss_X5_goes rfl rfl rfl (by decide +kernel) ⟨Nat.le_of_ble_eq_true rfl, Nat.le_of_ble_eq_true rfl⟩) hW (mG_obj _ _ _ _ _ _) rfl rfl rfl rfl hl.1 (Nat.le_of_ble_eq_true rfl) dX5_isLoss_9 ⟨Nat.le_of_ble_eq_true rfl, Nat.le_of_ble_eq_true rfl⟩ (fun r_9 xa1 G1 H locs hp hW => ?_)
  obtain ⟨la1, hu, hr_9, hk⟩ := hp
  cases hu
  refine lv_if_ne (tgt := 17) hx hb dX5_isLoss_12 (by decide) (fun c_12 => ?_) (fun c_12 => ?_)
  · -- ne taken
    have c_12 := hr_9.t c_12
    subst c_12
    obtain ⟨hz1, hz2, hz3⟩ := hk.zero
    have hps := hz1
    unfold pS at hps
    have hu_ti := hps.1
    unfold pT at hu_ti
    obtain ⟨ti, hti, rfl⟩ := x_nat (n := σ 12 0) (x := t) (by omega) (by omega)
    have hps2 := hps.2
    rw [xn_nI (by omega)] at hps2
    have h8i := hs8 ti
    obtain ⟨xi, hxi, rfl⟩ := x_nat (n := σ 11 ti) (x := x) (by omega) (by omega)
    refine lv_aload_n hx hb dX5_isLoss_17 rfl (lv_at hl 0 rfl) ?_
    refine lv_iload_n hx hb dX5_isLoss_18 rfl (lv_at hl 1 rfl) ?_
    refine xv_i (As := [.int (nI (ti))]) (rest := []) ⟨hx, hb, hml, hown, hts⟩ (c_X5_lays l D sa xa G0 σ ρ 0 hg ti (by omega)) (cwV 1 hts gX5_isLoss_X5_lays rfl rfl rfl (by decide +kernel) ⟨Nat.le_of_ble_eq_true rfl, Nat.le_of_ble_eq_true rfl⟩) hW (mG_obj _ _ _ _ _ _) rfl rfl rfl rfl hl.1 (Nat.le_of_ble_eq_true rfl) dX5_isLoss_19 ⟨Nat.le_of_ble_eq_true rfl, Nat.le_of_ble_eq_true rfl⟩ (fun r_19 xa1 G1 H locs hp hW => ?_)
    obtain ⟨ρl1, hu, hr_19, hoρl1⟩ := hp
    cases hu
    subst hr_19
    have h8 := hs8 ti
    refine lv_istore_n (lv' := [(3, .int (nI (σ 11 ti))), (0, .ref (xa 20 0)), (1, .int (nI (ti))), (2, .int (nI (xi)))]) hx hb dX5_isLoss_22 rfl hl (by decide) rfl (fun ls hl => ?_)
    have hl : lv_has ls 6 [(0, .ref (xa 20 0)), (1, .int (nI (ti))), (2, .int (nI (xi))), (3, .int (nI (σ 11 ti)))] := lv_sub hl [1, 2, 3, 0] rfl
    refine lv_iconst (v := nI (0)) hx hb dX5_isLoss_23 (by decide +kernel) ?_
    refine lv_istore (lv' := [(4, .int (nI (0))), (0, .ref (xa 20 0)), (1, .int (nI (ti))), (2, .int (nI (xi))), (3, .int (nI (σ 11 ti)))]) hx hb dX5_isLoss_24 hl (by decide) rfl (fun ls hl => ?_)
    have hl : lv_has ls 6 [(0, .ref (xa 20 0)), (1, .int (nI (ti))), (2, .int (nI (xi))), (3, .int (nI (σ 11 ti))), (4, .int (nI (0)))] := lv_sub hl [1, 2, 3, 4, 0] rfl
    refine lv_iconst (v := nI (0)) hx hb dX5_isLoss_26 (by decide +kernel) ?_
    refine lv_istore (lv' := [(5, .int (nI (0))), (0, .ref (xa 20 0)), (1, .int (nI (ti))), (2, .int (nI (xi))), (3, .int (nI (σ 11 ti))), (4, .int (nI (0)))]) hx hb dX5_isLoss_27 hl (by decide) rfl (fun ls hl => ?_)
    have hl : lv_has ls 6 [(0, .ref (xa 20 0)), (1, .int (nI (ti))), (2, .int (nI (xi))), (3, .int (nI (σ 11 ti))), (4, .int (nI (0))), (5, .int (nI (0)))] := lv_sub hl [1, 2, 3, 4, 5, 0] rfl
    refine x_loop (X := Int32 × Nat) (I := fun n xv H locs ls => n = σ 11 ti - xv.2 ∧ xW D sa A s xa (mG G0 D xa σ ρl1 0) H locs ∧ lv_has ls 6 [(0, .ref (xa 20 0)), (1, .int (nI (ti))), (2, .int (nI (xi))), (3, .int (nI (σ 11 ti))), (4, .int (xv.1)), (5, .int (nI (xv.2)))] ∧ (tv xv.1 (∃ j, j < xv.2 ∧ ordr σ ti j = xi ∧ lossO σ ti (ordr σ ti) j)) ∧ (xv.2 ≤ σ 11 ti)) (hd := 29) ?_ (n := _) (x := (nI 0, 0)) ⟨rfl, hW, hl, tv.zero (by rintro ⟨j, hj, -⟩; omega), by (try dsimp only); omega⟩
    rintro n ⟨r, k⟩ H locs ls ⟨hn, hW, hl, hr4, hk_⟩ ih29
    try dsimp only at hn hW hl hr4 hk_
    refine lv_iload hx hb dX5_isLoss_29 (lv_at hl 5 rfl) ?_
    refine lv_iload_n hx hb dX5_isLoss_31 rfl (lv_at hl 3 rfl) ?_
    refine lv_icmp_ge (tgt := 74) hx hb dX5_isLoss_32 (by decide) (fun c_32 => ?_) (fun c_32 => ?_)
    · -- ge taken
      have c_32 := Int32.le_iff_toInt_le.mp c_32
      rw [nI_toInt (n := k) (by omega)] at c_32
      rw [nI_toInt (n := σ 11 ti) (by omega)] at c_32
      refine lv_iload hx hb dX5_isLoss_74 (lv_at hl 4 rfl) ?_
      exact xe_i hx hb hr hr4.nar hlocks hW ⟨0, ρl1, hk, rfl, fun _ => by rw [xn_nI (by omega), xn_nI (by omega)]; exact hr4.to (by unfold lossT; rw [show k = σ 11 ti by omega])⟩ (Nat.le_refl _) (Nat.le_refl _) dX5_isLoss_76
    · -- ge not
      have c_32 : ¬ ((nI (σ 11 ti)).toInt ≤ (nI (k)).toInt) := fun h => c_32 (Int32.le_iff_toInt_le.mpr h)
      rw [nI_toInt (n := k) (by omega)] at c_32
      rw [nI_toInt (n := σ 11 ti) (by omega)] at c_32
      refine x_joinW (ls := ls) (D := D) (sa := sa) (A := A) (xa := xa) (G := mG G0 D xa σ ρl1 0) (P := ∃ j, j < k + 1 ∧ ordr σ ti j = xi ∧ lossO σ ti (ordr σ ti) j) (mpc := 66) (rest := []) (fun H locs r_66 hW h_66 => ?_) (fun J66 => ?_)
      ·
        refine lv_istore (lv' := [(4, .int (r_66)), (0, .ref (xa 20 0)), (1, .int (nI (ti))), (2, .int (nI (xi))), (3, .int (nI (σ 11 ti))), (5, .int (nI (k)))]) hx hb dX5_isLoss_66 hl (by decide) rfl (fun ls hl => ?_)
        have hl : lv_has ls 6 [(0, .ref (xa 20 0)), (1, .int (nI (ti))), (2, .int (nI (xi))), (3, .int (nI (σ 11 ti))), (4, .int (r_66)), (5, .int (nI (k)))] := lv_sub hl [1, 2, 3, 4, 0, 5] rfl
        refine lv_iinc (v := nI (k + 1)) (lv' := [(5, .int (nI (k + 1))), (0, .ref (xa 20 0)), (1, .int (nI (ti))), (2, .int (nI (xi))), (3, .int (nI (σ 11 ti))), (4, .int (r_66))]) hx hb dX5_isLoss_68 hl (k := 5) rfl (x_inc k 1 rfl) (by decide) rfl (fun ls hl => ?_)
        have hl : lv_has ls 6 [(0, .ref (xa 20 0)), (1, .int (nI (ti))), (2, .int (nI (xi))), (3, .int (nI (σ 11 ti))), (4, .int (r_66)), (5, .int (nI (k + 1)))] := lv_sub hl [1, 2, 3, 4, 5, 0] rfl
        refine lv_goto (tgt := 29) hx hb dX5_isLoss_71 (by decide) ?_
        exact ih29 (σ 11 ti - (k + 1)) (r_66, k + 1) _ _ _ (by omega) ⟨rfl, hW, hl, h_66, by (try dsimp only); omega⟩
      ·
        refine lv_iload hx hb dX5_isLoss_35 (lv_at hl 4 rfl) ?_
        refine lv_if_ne (tgt := 61) hx hb dX5_isLoss_37 (by decide) (fun c_37 => ?_) (fun c_37 => ?_)
        · -- ne taken
          have c_37 := hr4.t c_37
          refine lv_iconst (v := nI (1)) hx hb dX5_isLoss_61 (by decide +kernel) ?_
          refine lv_goto (tgt := 66) hx hb dX5_isLoss_62 (by decide) ?_
          exact J66 _ _ _ hW (tv.one (by first | (obtain ⟨j, hj, he⟩ := c_37; exact ⟨j, by omega, he⟩) | exact ⟨k, by omega, c_48, c_58⟩))
        · -- ne not
          have c_37 := hr4.f c_37
          refine lv_aload_n hx hb dX5_isLoss_40 rfl (lv_at hl 0 rfl) ?_
          refine m_get hx hb hts hin5 hown hW 19 (by decide) rfl (hts (.fieldLink RX5 60 "RestitutoryModel" "order" "[I") (by decide +kernel)) (v := .ref (xa 20 19)) rfl dX5_isLoss_41 ?_
          refine lv_iload hx hb dX5_isLoss_44 (lv_at hl 5 rfl) ?_
          refine m_old hx hb hW (k) (by omega) (v := ordr σ ti k) (hoρl1 _ (by omega)) dX5_isLoss_46 ?_
          have o_46 := ordr_lt (σ := σ) (i := ti) (q := k) (by omega)
          refine lv_iload_n hx hb dX5_isLoss_47 rfl (lv_at hl 2 rfl) ?_
          refine lv_icmp_ne (tgt := 65) hx hb dX5_isLoss_48 (by decide) (fun c_48 => ?_) (fun c_48 => ?_)
          · -- ne taken
            have c_48 : ¬ (ordr σ ti k = xi) := fun h_ => c_48 ((x_eqN (a := ordr σ ti k) (b := xi) (by omega) (by omega)).mpr h_)
            refine lv_iconst (v := nI (0)) hx hb dX5_isLoss_65 (by decide +kernel) ?_
            exact J66 _ _ _ hW (tv.zero (by rintro ⟨j, hj, he1, he2⟩; by_cases hjk : j = k; subst hjk; (first | exact c_48 he1 | exact c_58 he2); exact c_37 ⟨j, by omega, he1, he2⟩))
          · -- ne not
            have c_48 := (x_eqN (a := ordr σ ti k) (b := xi) (by omega) (by omega)).mp c_48
            refine lv_aload_n hx hb dX5_isLoss_51 rfl (lv_at hl 0 rfl) ?_
            refine lv_iload_n hx hb dX5_isLoss_52 rfl (lv_at hl 1 rfl) ?_
            refine lv_iload hx hb dX5_isLoss_53 (lv_at hl 5 rfl) ?_
            refine xv_i (As := [.int (nI (ti)), .int (nI (k))]) (rest := []) ⟨hx, hb, hml, hown, hts⟩ (c_X5_loses l D sa xa G0 σ ρl1 0 hg ti k (by omega) (by omega) hoρl1) (cwV 2 hts gX5_isLoss_X5_loses rfl rfl rfl (by decide +kernel) ⟨Nat.le_of_ble_eq_true rfl, Nat.le_of_ble_eq_true rfl⟩) hW (mG_obj _ _ _ _ _ _) rfl rfl rfl rfl hl.1 (Nat.le_of_ble_eq_true rfl) dX5_isLoss_55 ⟨Nat.le_of_ble_eq_true rfl, Nat.le_of_ble_eq_true rfl⟩ (fun r_55 xa1 G1 H locs hp hW => ?_)
            obtain ⟨hu, hr_55⟩ := hp
            cases hu
            refine lv_if_eq (tgt := 65) hx hb dX5_isLoss_58 (by decide) (fun c_58 => ?_) (fun c_58 => ?_)
            · -- eq taken
              have c_58 := hr_55.f c_58
              refine lv_iconst (v := nI (0)) hx hb dX5_isLoss_65 (by decide +kernel) ?_
              exact J66 _ _ _ hW (tv.zero (by rintro ⟨j, hj, he1, he2⟩; by_cases hjk : j = k; subst hjk; (first | exact c_48 he1 | exact c_58 he2); exact c_37 ⟨j, by omega, he1, he2⟩))
            · -- eq not
              have c_58 := hr_55.t c_58
              refine lv_iconst (v := nI (1)) hx hb dX5_isLoss_61 (by decide +kernel) ?_
              refine lv_goto (tgt := 66) hx hb dX5_isLoss_62 (by decide) ?_
              exact J66 _ _ _ hW (tv.one (by first | (obtain ⟨j, hj, he⟩ := c_37; exact ⟨j, by omega, he⟩) | exact ⟨k, by omega, c_48, c_58⟩))
  · -- ne not
    have c_12 := hr_9.f c_12
    refine lv_iconst (v := nI (0)) hx hb dX5_isLoss_15 (by decide +kernel) ?_
    exact xe_i hx hb hr rfl hlocks hW ⟨la1, ρ, hk, rfl, fun h => absurd h c_12⟩ (Nat.le_refl _) (Nat.le_refl _) dX5_isLoss_16

set_option maxHeartbeats 4000000 in
set_option maxRecDepth 100000 in
theorem c_X5_holderOf (l : Launch) (D : xD) (sa : Nat → Nat) (xa : xA) (G0 : xG) (σ : Sg) (ρ : Nat → Nat) (la : Nat) (hg : Gd σ) (i : Nat) (hi : i < σ 12 0) : xCi l yX5_holderOf wsX5_holderOf ({ frames := 12, cells := 0, slots := 0, locals := 300 } : Room) D sa xa (mG G0 D xa σ ρ la) [.ref (xa 20 0), .int (nI i)] (fun r u => ∃ ρ1, u = (xa, mG G0 D xa σ ρ1 la) ∧ r = oi (hold σ i)) 0 0 := by
  have hB := hg.1
  have h5 := hg.2.1.1
  have h7 := hg.2.1.2.1
  have h12 := hg.2.1.2.2.1
  have hy0 := hg.2.1.2.2.2.1
  have hy1 := hg.2.1.2.2.2.2
  have hm := hg.hm
  have hs8 := hg.hs8
  intro sz
  refine Met.ofW (cc := cX5_holderOf) (maxL := 3) (ret := (some .int)) (by decide +kernel) rfl ?_
  intro p e s m args below meth c s₁ B hml hv
  obtain ⟨rfl, hsz, hv2⟩ := hv
  subst hsz
  have hx := B.exec
  have hb := B.bytes
  have hr := B.returns
  have hts := atoms_spec (ws := wsX5_holderOf) B.pre
  have hown : s.vm.findClass RX5 = some m.cls := findClass_of_methodNamed B.named
  have hlocks := B.notSynchronized
  have hin5 : ∀ w ∈ wsX50, w ∈ wsX5_holderOf := by decide +kernel
  have hW := xW.start (s := s) ⟨rfl, hv2⟩
  clear hv2
  generalize xAw xa (mG G0 D xa σ ρ la) s.heap.size = A at hW ⊢
  have hl := lv_entry ([.ref (xa 20 0), .int (nI (i))]) (n := 3) (Nat.le_of_ble_eq_true rfl)
  rw [lg_entry_eq]
  generalize (lg_sl ([.ref (xa 20 0), .int (nI (i))]) ++ List.replicate (3 - (lg_sl ([.ref (xa 20 0), .int (nI (i))])).length) Slot.unset).toArray = ls at hl ⊢
  have hl : lv_has ls 3 [(0, .ref (xa 20 0)), (1, .int (nI (i)))] := hl
  refine lv_aload_n hx hb dX5_holderOf_0 rfl (lv_at hl 0 rfl) ?_
  refine lv_iload_n hx hb dX5_holderOf_1 rfl (lv_at hl 1 rfl) ?_
  refine xv_i (As := [.int (nI (i))]) (rest := []) ⟨hx, hb, hml, hown, hts⟩ (c_X5_lays l D sa xa G0 σ ρ la hg i (by omega)) (cwV 1 hts gX5_holderOf_X5_lays rfl rfl rfl (by decide +kernel) ⟨Nat.le_of_ble_eq_true rfl, Nat.le_of_ble_eq_true rfl⟩) hW (mG_obj _ _ _ _ _ _) rfl rfl rfl rfl hl.1 (Nat.le_of_ble_eq_true rfl) dX5_holderOf_2 ⟨Nat.le_of_ble_eq_true rfl, Nat.le_of_ble_eq_true rfl⟩ (fun r_2 xa1 G1 H locs hp hW => ?_)
  obtain ⟨ρl1, hu, hr_2, hoρl1⟩ := hp
  cases hu
  subst hr_2
  have h8 := hs8 i
  refine lv_istore_n (lv' := [(2, .int (nI (σ 11 i))), (0, .ref (xa 20 0)), (1, .int (nI (i)))]) hx hb dX5_holderOf_5 rfl hl (by decide) rfl (fun ls hl => ?_)
  have hl : lv_has ls 3 [(0, .ref (xa 20 0)), (1, .int (nI (i))), (2, .int (nI (σ 11 i)))] := lv_sub hl [1, 2, 0] rfl
  refine lv_iload_n hx hb dX5_holderOf_6 rfl (lv_at hl 2 rfl) ?_
  refine lv_if_ne (tgt := 14) hx hb dX5_holderOf_7 (by decide) (fun c_7 => ?_) (fun c_7 => ?_)
  · -- ne taken
    have c_7 : ¬ (σ 11 i = 0) := fun h_ => c_7 ((x_eqZ (a := σ 11 i) (by omega)).mpr h_)
    refine lv_aload_n hx hb dX5_holderOf_14 rfl (lv_at hl 0 rfl) ?_
    refine m_get hx hb hts hin5 hown hW 13 (by decide) rfl (hts (.fieldLink RX5 42 "RestitutoryModel" "parties" "[I") (by decide +kernel)) (v := .ref (xa 20 13)) rfl dX5_holderOf_15 ?_
    refine lv_bipush (v := nI (8)) hx hb dX5_holderOf_18 (by decide +kernel) ?_
    refine lv_iload_n hx hb dX5_holderOf_20 rfl (lv_at hl 1 rfl) ?_
    refine lv_imul hx hb dX5_holderOf_21 ?_
    rw [pk_mul]
    refine lv_aload_n hx hb dX5_holderOf_22 rfl (lv_at hl 0 rfl) ?_
    refine m_get hx hb hts hin5 hown hW 19 (by decide) rfl (hts (.fieldLink RX5 60 "RestitutoryModel" "order" "[I") (by decide +kernel)) (v := .ref (xa 20 19)) rfl dX5_holderOf_23 ?_
    refine lv_iload_n hx hb dX5_holderOf_26 rfl (lv_at hl 2 rfl) ?_
    refine lv_iconst (v := nI (1)) hx hb dX5_holderOf_27 (by decide +kernel) ?_
    refine lv_isub hx hb dX5_holderOf_28 ?_
    rw [pk_sub (a := σ 11 i) (b := 1) (by omega)]
    refine m_old hx hb hW ((σ 11 i) - 1) (by omega) (v := ordr σ i ((σ 11 i) - 1)) (hoρl1 _ (by omega)) dX5_holderOf_29 ?_
    have o_29 := ordr_lt (σ := σ) (i := i) (q := (σ 11 i) - 1) (by omega)
    refine lv_iadd hx hb dX5_holderOf_30 ?_
    rw [nI_add]
    refine m_ild hx hb hW 13 80 (by unfold mArr; decide) rfl rfl ((8 * i) + (ordr σ i ((σ 11 i) - 1))) (by omega) (v := σ 13 ((8 * i) + (ordr σ i ((σ 11 i) - 1)))) rfl dX5_holderOf_31 ?_
    have b_31 := hB 13 ((8 * i) + (ordr σ i ((σ 11 i) - 1)))
    exact xe_i hx hb hr rfl hlocks hW ⟨ρl1, rfl, by unfold hold; rw [if_neg c_7]; rfl⟩ (Nat.le_refl _) (Nat.le_refl _) dX5_holderOf_32
  · -- ne not
    have c_7 := (x_eqZ (a := σ 11 i) (by omega)).mp c_7
    refine lv_iconst (v := -1) hx hb dX5_holderOf_10 (by decide +kernel) ?_
    refine lv_goto (tgt := 32) hx hb dX5_holderOf_11 (by decide) ?_
    exact xe_i hx hb hr rfl hlocks hW ⟨ρl1, rfl, by unfold hold; rw [if_pos c_7]; rfl⟩ (Nat.le_refl _) (Nat.le_refl _) dX5_holderOf_32

set_option maxHeartbeats 4000000 in
set_option maxRecDepth 100000 in
theorem c_X5_holder (l : Launch) (D : xD) (sa : Nat → Nat) (xa : xA) (G0 : xG) (σ : Sg) (ρ : Nat → Nat) (la : Nat) (hg : Gd σ) (t : Int32) : xCi l yX5_holder wsX5_holder ({ frames := 20, cells := 0, slots := 0, locals := 700 } : Room) D sa xa (mG G0 D xa σ ρ la) [.ref (xa 20 0), .int t] (fun r u => ∃ k ρ1, gk (pT σ t) True True k ∧ u = (xa, mG G0 D xa σ ρ1 k) ∧ (k = 0 → r = oi (hold σ (xn t)))) 0 0 := by
  have hB := hg.1
  have h5 := hg.2.1.1
  have h7 := hg.2.1.2.1
  have h12 := hg.2.1.2.2.1
  have hy0 := hg.2.1.2.2.2.1
  have hy1 := hg.2.1.2.2.2.2
  have hm := hg.hm
  have hs8 := hg.hs8
  intro sz
  refine Met.ofW (cc := cX5_holder) (maxL := 2) (ret := (some .int)) (by decide +kernel) rfl ?_
  intro p e s m args below meth c s₁ B hml hv
  obtain ⟨rfl, hsz, hv2⟩ := hv
  subst hsz
  have hx := B.exec
  have hb := B.bytes
  have hr := B.returns
  have hts := atoms_spec (ws := wsX5_holder) B.pre
  have hown : s.vm.findClass RX5 = some m.cls := findClass_of_methodNamed B.named
  have hlocks := B.notSynchronized
  have hin5 : ∀ w ∈ wsX50, w ∈ wsX5_holder := by decide +kernel
  have hW := xW.start (s := s) ⟨rfl, hv2⟩
  clear hv2
  generalize xAw xa (mG G0 D xa σ ρ la) s.heap.size = A at hW ⊢
  have hl := lv_entry ([.ref (xa 20 0), .int (t)]) (n := 2) (Nat.le_of_ble_eq_true rfl)
  rw [lg_entry_eq]
  generalize (lg_sl ([.ref (xa 20 0), .int (t)]) ++ List.replicate (2 - (lg_sl ([.ref (xa 20 0), .int (t)])).length) Slot.unset).toArray = ls at hl ⊢
  have hl : lv_has ls 2 [(0, .ref (xa 20 0)), (1, .int (t))] := hl
  refine lv_aload_n hx hb dX5_holder_0 rfl (lv_at hl 0 rfl) ?_
  refine lv_aload_n hx hb dX5_holder_1 rfl (lv_at hl 0 rfl) ?_
  refine lv_iload_n hx hb dX5_holder_2 rfl (lv_at hl 1 rfl) ?_
  refine xv_i (As := [.int (t)]) (rest := [.ref (xa 20 0)]) ⟨hx, hb, hml, hown, hts⟩ (c_X5_isThing l D sa xa G0 σ ρ la hB t) (cwV 1 hts gX5_holder_X5_isThing rfl rfl rfl (by decide +kernel) ⟨Nat.le_of_ble_eq_true rfl, Nat.le_of_ble_eq_true rfl⟩) hW (mG_obj _ _ _ _ _ _) rfl rfl rfl rfl hl.1 (Nat.le_of_ble_eq_true rfl) dX5_holder_3 ⟨Nat.le_of_ble_eq_true rfl, Nat.le_of_ble_eq_true rfl⟩ (fun r_3 xa1 G1 H locs hp hW => ?_)
  obtain ⟨hu, hr_3⟩ := hp
  cases hu
  refine lv_iconst (v := nI (1)) hx hb dX5_holder_6 (by decide +kernel) ?_
  refine lv_iconst (v := nI (1)) hx hb dX5_holder_7 (by decide +kernel) ?_
  refine xv_i (As := [.int (r_3), .int (nI (1)), .int (nI (1))]) (rest := []) ⟨hx, hb, hml, hown, hts⟩ (c_X5_goes l D sa xa G0 σ ρ la hB hr_3 (tv.one trivial) (tv.one trivial)) (cwV 3 hts gX5_holder_X5_goes rfl rfl rfl (by decide +kernel) ⟨Nat.le_of_ble_eq_true rfl, Nat.le_of_ble_eq_true rfl⟩) hW (mG_obj _ _ _ _ _ _) rfl rfl rfl rfl hl.1 (Nat.le_of_ble_eq_true rfl) dX5_holder_8 ⟨Nat.le_of_ble_eq_true rfl, Nat.le_of_ble_eq_true rfl⟩ (fun r_8 xa1 G1 H locs hp hW => ?_)
  obtain ⟨la1, hu, hr_8, hk⟩ := hp
  cases hu
  refine lv_if_eq (tgt := 22) hx hb dX5_holder_11 (by decide) (fun c_11 => ?_) (fun c_11 => ?_)
  · -- eq taken
    have c_11 := hr_8.f c_11
    refine lv_iconst (v := nI (0)) hx hb dX5_holder_22 (by decide +kernel) ?_
    exact xe_i hx hb hr rfl hlocks hW ⟨la1, ρ, hk, rfl, fun h => absurd h c_11⟩ (Nat.le_refl _) (Nat.le_refl _) dX5_holder_23
  · -- eq not
    have c_11 := hr_8.t c_11
    subst c_11
    obtain ⟨hz1, hz2, hz3⟩ := hk.zero
    have hu_ti := hz1
    unfold pT at hu_ti
    obtain ⟨ti, hti, rfl⟩ := x_nat (n := σ 12 0) (x := t) (by omega) (by omega)
    refine lv_aload_n hx hb dX5_holder_14 rfl (lv_at hl 0 rfl) ?_
    refine lv_iload_n hx hb dX5_holder_15 rfl (lv_at hl 1 rfl) ?_
    refine xv_i (As := [.int (nI (ti))]) (rest := []) ⟨hx, hb, hml, hown, hts⟩ (c_X5_holderOf l D sa xa G0 σ ρ 0 hg ti (by omega)) (cwV 1 hts gX5_holder_X5_holderOf rfl rfl rfl (by decide +kernel) ⟨Nat.le_of_ble_eq_true rfl, Nat.le_of_ble_eq_true rfl⟩) hW (mG_obj _ _ _ _ _ _) rfl rfl rfl rfl hl.1 (Nat.le_of_ble_eq_true rfl) dX5_holder_16 ⟨Nat.le_of_ble_eq_true rfl, Nat.le_of_ble_eq_true rfl⟩ (fun r_16 xa1 G1 H locs hp hW => ?_)
    obtain ⟨ρl1, hu, hr_16⟩ := hp
    cases hu
    refine lv_goto (tgt := 23) hx hb dX5_holder_19 (by decide) ?_
    exact xe_i hx hb hr rfl hlocks hW ⟨0, ρl1, hk, rfl, fun _ => by rw [xn_nI (by omega)]; exact hr_16⟩ (Nat.le_refl _) (Nat.le_refl _) dX5_holder_23
