set_option maxHeartbeats 4000000 in
set_option maxRecDepth 100000 in
theorem c_X5_bits (l : Launch) (D : xD) (sa : Nat → Nat) (xa : xA) (G : xG) (x : Nat) (hx0 : x < 65536) : xCi l yX5_bits wsX5_bits ({ frames := 10, cells := 0, slots := 0, locals := 200 } : Room) D sa xa G [.int (nI x)] (fun r u => u = (xa, G) ∧ r = nI (pcn x 16)) 0 0 := by
  intro sz
  refine Met.ofW (cc := cX5_bits) (maxL := 3) (ret := (some .int)) (by decide +kernel) rfl ?_
  intro p e s m args below meth c s₁ B hml hv
  obtain ⟨rfl, hsz, hv2⟩ := hv
  subst hsz
  have hx := B.exec
  have hb := B.bytes
  have hr := B.returns
  have hts := atoms_spec (ws := wsX5_bits) B.pre
  have hown : s.vm.findClass RX5 = some m.cls := findClass_of_methodNamed B.named
  have hlocks := B.notSynchronized
  have hW := xW.start (s := s) ⟨rfl, hv2⟩
  clear hv2
  generalize xAw xa (G) s.heap.size = A at hW ⊢
  have hl := lv_entry ([.int (nI (x))]) (n := 3) (Nat.le_of_ble_eq_true rfl)
  rw [lg_entry_eq]
  generalize (lg_sl ([.int (nI (x))]) ++ List.replicate (3 - (lg_sl ([.int (nI (x))])).length) Slot.unset).toArray = ls at hl ⊢
  have hl : lv_has ls 3 [(0, .int (nI (x)))] := hl
  refine lv_iconst (v := nI (0)) hx hb dX5_bits_0 (by decide +kernel) ?_
  refine lv_istore_n (lv' := [(1, .int (nI (0))), (0, .int (nI (x)))]) hx hb dX5_bits_1 rfl hl (by decide) rfl (fun ls hl => ?_)
  have hl : lv_has ls 3 [(0, .int (nI (x))), (1, .int (nI (0)))] := lv_sub hl [1, 0] rfl
  refine lv_iconst (v := nI (0)) hx hb dX5_bits_2 (by decide +kernel) ?_
  refine lv_istore_n (lv' := [(2, .int (nI (0))), (0, .int (nI (x))), (1, .int (nI (0)))]) hx hb dX5_bits_3 rfl hl (by decide) rfl (fun ls hl => ?_)
  have hl : lv_has ls 3 [(0, .int (nI (x))), (1, .int (nI (0))), (2, .int (nI (0)))] := lv_sub hl [1, 2, 0] rfl
  refine x_loop (X := Nat) (I := fun n xv H locs ls => n = 16 - xv ∧ xW D sa A s xa (G) H locs ∧ lv_has ls 3 [(0, .int (nI (x))), (1, .int (nI (pcn x xv))), (2, .int (nI (xv)))] ∧ (xv ≤ 16)) (hd := 4) ?_ (n := _) (x := (0)) ⟨rfl, hW, hl, by (try dsimp only); omega⟩
  rintro n k H locs ls ⟨hn, hW, hl, hk⟩ ih4
  try dsimp only at hn hW hl hk
  refine lv_iload_n hx hb dX5_bits_4 rfl (lv_at hl 2 rfl) ?_
  refine lv_bipush (v := nI (16)) hx hb dX5_bits_5 (by decide +kernel) ?_
  refine lv_icmp_ge (tgt := 24) hx hb dX5_bits_7 (by decide) (fun c_7 => ?_) (fun c_7 => ?_)
  · -- ge taken
    have c_7 := Int32.le_iff_toInt_le.mp c_7
    rw [nI_toInt (n := k) (by omega)] at c_7
    rw [nI_toInt (n := 16) (by omega)] at c_7
    refine lv_iload_n hx hb dX5_bits_24 rfl (lv_at hl 1 rfl) ?_
    exact xe_i hx hb hr rfl hlocks hW ⟨rfl, by show nI (pcn x k) = nI (pcn x 16); rw [show k = 16 by omega]⟩ (Nat.le_refl _) (Nat.le_refl _) dX5_bits_25
  · -- ge not
    have c_7 : ¬ ((nI (16)).toInt ≤ (nI (k)).toInt) := fun h => c_7 (Int32.le_iff_toInt_le.mpr h)
    rw [nI_toInt (n := k) (by omega)] at c_7
    rw [nI_toInt (n := 16) (by omega)] at c_7
    refine lv_iload_n hx hb dX5_bits_10 rfl (lv_at hl 1 rfl) ?_
    refine lv_iload_n hx hb dX5_bits_11 rfl (lv_at hl 0 rfl) ?_
    refine lv_iload_n hx hb dX5_bits_12 rfl (lv_at hl 2 rfl) ?_
    refine lv_ishr hx hb dX5_bits_13 ?_
    rw [bt_shr (m := x) (b := k) (by omega) (by omega)]
    refine lv_iconst (v := nI (1)) hx hb dX5_bits_14 (by decide +kernel) ?_
    refine lv_iand hx hb dX5_bits_15 ?_
    rw [bt_and1]
    refine lv_iadd hx hb dX5_bits_16 ?_
    rw [nI_add]
    refine lv_istore_n (lv' := [(1, .int (nI ((pcn x k) + (x / 2 ^ k % 2)))), (0, .int (nI (x))), (2, .int (nI (k)))]) hx hb dX5_bits_17 rfl hl (by decide) rfl (fun ls hl => ?_)
    have hl : lv_has ls 3 [(0, .int (nI (x))), (1, .int (nI ((pcn x k) + (x / 2 ^ k % 2)))), (2, .int (nI (k)))] := lv_sub hl [1, 0, 2] rfl
    refine lv_iinc (v := nI (k + 1)) (lv' := [(2, .int (nI (k + 1))), (0, .int (nI (x))), (1, .int (nI ((pcn x k) + (x / 2 ^ k % 2))))]) hx hb dX5_bits_18 hl (k := 2) rfl (x_inc k 1 rfl) (by decide) rfl (fun ls hl => ?_)
    have hl : lv_has ls 3 [(0, .int (nI (x))), (1, .int (nI ((pcn x k) + (x / 2 ^ k % 2)))), (2, .int (nI (k + 1)))] := lv_sub hl [1, 2, 0] rfl
    refine lv_goto (tgt := 4) hx hb dX5_bits_21 (by decide) ?_
    exact ih4 (16 - (k + 1)) (k + 1) _ _ _ (by omega) ⟨rfl, hW, hl, by (try dsimp only); omega⟩

set_option maxHeartbeats 4000000 in
set_option maxRecDepth 100000 in
theorem c_X5_likes (l : Launch) (D : xD) (sa : Nat → Nat) (xa : xA) (G0 : xG) (σ : Sg) (ρ : Nat → Nat) (la : Nat) (hg : Gd σ) (i j : Nat) (hi : i < σ 12 0) (hj : j < σ 12 0) : mRd l yX5_likes wsX5_likes ({ frames := 12, cells := 0, slots := 0, locals := 300 } : Room) D sa xa G0 σ ρ la [.int (nI i), .int (nI j)] (fun r => r.toInt = lk σ i j) := by
  have hB := hg.1
  have h5 := hg.2.1.1
  have h7 := hg.2.1.2.1
  have h12 := hg.2.1.2.2.1
  have hy0 := hg.2.1.2.2.2.1
  have hy1 := hg.2.1.2.2.2.2
  have hm := hg.hm
  have hs8 := hg.hs8
  intro sz
  refine Met.ofW (cc := cX5_likes) (maxL := 4) (ret := (some .int)) (by decide +kernel) rfl ?_
  intro p e s m args below meth c s₁ B hml hv
  obtain ⟨rfl, hsz, hv2⟩ := hv
  subst hsz
  have hx := B.exec
  have hb := B.bytes
  have hr := B.returns
  have hts := atoms_spec (ws := wsX5_likes) B.pre
  have hown : s.vm.findClass RX5 = some m.cls := findClass_of_methodNamed B.named
  have hlocks := B.notSynchronized
  have hin5 : ∀ w ∈ wsX50, w ∈ wsX5_likes := by decide +kernel
  have hW := xW.start (s := s) ⟨rfl, hv2⟩
  clear hv2
  generalize xAw xa (mG G0 D xa σ ρ la) s.heap.size = A at hW ⊢
  have hl := lv_entry ([.ref (xa 20 0), .int (nI (i)), .int (nI (j))]) (n := 4) (Nat.le_of_ble_eq_true rfl)
  rw [lg_entry_eq]
  generalize (lg_sl ([.ref (xa 20 0), .int (nI (i)), .int (nI (j))]) ++ List.replicate (4 - (lg_sl ([.ref (xa 20 0), .int (nI (i)), .int (nI (j))])).length) Slot.unset).toArray = ls at hl ⊢
  have hl : lv_has ls 4 [(0, .ref (xa 20 0)), (1, .int (nI (i))), (2, .int (nI (j)))] := hl
  have hs10 : ∀ k, k < σ 12 0 → σ 10 k ≤ 1000 := fun k hk => (hg.2.2.2.2.1 k hk).1
  refine lv_aload_n hx hb dX5_likes_0 rfl (lv_at hl 0 rfl) ?_
  refine m_get hx hb hts hin5 hown hW 10 (by decide) rfl (hts (.fieldLink RX5 36 "RestitutoryModel" "sizes" "[I") (by decide +kernel)) (v := .ref (xa 20 10)) rfl dX5_likes_1 ?_
  refine lv_iload_n hx hb dX5_likes_4 rfl (lv_at hl 1 rfl) ?_
  refine m_ild hx hb hW 10 10 (by unfold mArr; decide) rfl rfl (i) (by omega) (v := σ 10 i) rfl dX5_likes_5 ?_
  have b_5 := hB 10 (i)
  refine lv_aload_n hx hb dX5_likes_6 rfl (lv_at hl 0 rfl) ?_
  refine m_get hx hb hts hin5 hown hW 10 (by decide) rfl (hts (.fieldLink RX5 36 "RestitutoryModel" "sizes" "[I") (by decide +kernel)) (v := .ref (xa 20 10)) rfl dX5_likes_7 ?_
  refine lv_iload_n hx hb dX5_likes_10 rfl (lv_at hl 2 rfl) ?_
  refine m_ild hx hb hW 10 10 (by unfold mArr; decide) rfl rfl (j) (by omega) (v := σ 10 j) rfl dX5_likes_11 ?_
  have b_11 := hB 10 (j)
  refine lv_isub hx hb dX5_likes_12 ?_
  refine lv_istore_n (lv' := [(3, .int ((nI (σ 10 i)) - (nI (σ 10 j)))), (0, .ref (xa 20 0)), (1, .int (nI (i))), (2, .int (nI (j)))]) hx hb dX5_likes_13 rfl hl (by decide) rfl (fun ls hl => ?_)
  have hl : lv_has ls 4 [(0, .ref (xa 20 0)), (1, .int (nI (i))), (2, .int (nI (j))), (3, .int ((nI (σ 10 i)) - (nI (σ 10 j))))] := lv_sub hl [1, 2, 3, 0] rfl
  refine lv_bipush (v := nI (10)) hx hb dX5_likes_14 (by decide +kernel) ?_
  refine lv_aload_n hx hb dX5_likes_16 rfl (lv_at hl 0 rfl) ?_
  refine m_get hx hb hts hin5 hown hW 9 (by decide) rfl (hts (.fieldLink RX5 33 "RestitutoryModel" "marks" "[I") (by decide +kernel)) (v := .ref (xa 20 9)) rfl dX5_likes_17 ?_
  refine lv_iload_n hx hb dX5_likes_20 rfl (lv_at hl 1 rfl) ?_
  refine m_ild hx hb hW 9 10 (by unfold mArr; decide) rfl rfl (i) (by omega) (v := σ 9 i) rfl dX5_likes_21 ?_
  have b_21 := hB 9 (i)
  refine lv_aload_n hx hb dX5_likes_22 rfl (lv_at hl 0 rfl) ?_
  refine m_get hx hb hts hin5 hown hW 9 (by decide) rfl (hts (.fieldLink RX5 33 "RestitutoryModel" "marks" "[I") (by decide +kernel)) (v := .ref (xa 20 9)) rfl dX5_likes_23 ?_
  refine lv_iload_n hx hb dX5_likes_26 rfl (lv_at hl 2 rfl) ?_
  refine m_ild hx hb hW 9 10 (by unfold mArr; decide) rfl rfl (j) (by omega) (v := σ 9 j) rfl dX5_likes_27 ?_
  have b_27 := hB 9 (j)
  refine lv_iand hx hb dX5_likes_28 ?_
  rw [nI_and]
  refine xs_i (As := [.int (nI ((σ 9 i) &&& (σ 9 j)))]) (rest := [.int (nI (10))]) ⟨hx, hb, hml, hown, hts⟩ (c_X5_bits l D sa xa (mG G0 D xa σ ρ la) ((σ 9 i) &&& (σ 9 j)) (Nat.lt_of_le_of_lt Nat.and_le_left (hB 9 i))) (va_cwS 1 hts gX5_likes_X5_bits rfl rfl rfl (by decide +kernel) ⟨Nat.le_of_ble_eq_true rfl, Nat.le_of_ble_eq_true rfl⟩) hW rfl rfl hl.1 (Nat.le_of_ble_eq_true rfl) dX5_likes_29 ⟨Nat.le_of_ble_eq_true rfl, Nat.le_of_ble_eq_true rfl⟩ (fun r_29 xa1 G1 H locs hp hW => ?_)
  obtain ⟨hu, hr_29⟩ := hp
  cases hu
  subst hr_29
  have b_29 := pcn_le ((σ 9 i) &&& (σ 9 j)) 16
  refine lv_imul hx hb dX5_likes_32 ?_
  rw [pk_mul]
  refine lv_iconst (v := nI (5)) hx hb dX5_likes_33 (by decide +kernel) ?_
  refine lv_aload_n hx hb dX5_likes_34 rfl (lv_at hl 0 rfl) ?_
  refine m_get hx hb hts hin5 hown hW 9 (by decide) rfl (hts (.fieldLink RX5 33 "RestitutoryModel" "marks" "[I") (by decide +kernel)) (v := .ref (xa 20 9)) rfl dX5_likes_35 ?_
  refine lv_iload_n hx hb dX5_likes_38 rfl (lv_at hl 1 rfl) ?_
  refine m_ild hx hb hW 9 10 (by unfold mArr; decide) rfl rfl (i) (by omega) (v := σ 9 i) rfl dX5_likes_39 ?_
  have b_39 := hB 9 (i)
  refine lv_aload_n hx hb dX5_likes_40 rfl (lv_at hl 0 rfl) ?_
  refine m_get hx hb hts hin5 hown hW 9 (by decide) rfl (hts (.fieldLink RX5 33 "RestitutoryModel" "marks" "[I") (by decide +kernel)) (v := .ref (xa 20 9)) rfl dX5_likes_41 ?_
  refine lv_iload_n hx hb dX5_likes_44 rfl (lv_at hl 2 rfl) ?_
  refine m_ild hx hb hW 9 10 (by unfold mArr; decide) rfl rfl (j) (by omega) (v := σ 9 j) rfl dX5_likes_45 ?_
  have b_45 := hB 9 (j)
  refine lv_ixor hx hb dX5_likes_46 ?_
  rw [nI_xor]
  refine xs_i (As := [.int (nI ((σ 9 i) ^^^ (σ 9 j)))]) (rest := [.int (nI (5)), .int (nI (10 * (pcn ((σ 9 i) &&& (σ 9 j)) 16)))]) ⟨hx, hb, hml, hown, hts⟩ (c_X5_bits l D sa xa (mG G0 D xa σ ρ la) ((σ 9 i) ^^^ (σ 9 j)) (Nat.xor_lt_two_pow (n := 16) (hB 9 i) (hB 9 j))) (va_cwS 1 hts gX5_likes_X5_bits rfl rfl rfl (by decide +kernel) ⟨Nat.le_of_ble_eq_true rfl, Nat.le_of_ble_eq_true rfl⟩) hW rfl rfl hl.1 (Nat.le_of_ble_eq_true rfl) dX5_likes_47 ⟨Nat.le_of_ble_eq_true rfl, Nat.le_of_ble_eq_true rfl⟩ (fun r_47 xa1 G1 H locs hp hW => ?_)
  obtain ⟨hu, hr_47⟩ := hp
  cases hu
  subst hr_47
  have b_47 := pcn_le ((σ 9 i) ^^^ (σ 9 j)) 16
  refine lv_imul hx hb dX5_likes_50 ?_
  rw [pk_mul]
  refine lv_isub hx hb dX5_likes_51 ?_
  refine lv_iload_n hx hb dX5_likes_52 rfl (lv_at hl 3 rfl) ?_
  refine lv_if_ge (tgt := 61) hx hb dX5_likes_53 (by decide) (fun c_53 => ?_) (fun c_53 => ?_)
  · -- ge taken
    have c_53 := Int32.le_iff_toInt_le.mp c_53
    rw [x_t0] at c_53
    refine lv_iload_n hx hb dX5_likes_61 rfl (lv_at hl 3 rfl) ?_
    refine lv_isub hx hb dX5_likes_62 ?_
    have q1 := hs10 i hi
    have q2 := hs10 j hj
    have e1 : (nI (10 * pcn (σ 9 i &&& σ 9 j) 16) - nI (5 * pcn (σ 9 i ^^^ σ 9 j) 16)).toInt = 10 * (pcn (σ 9 i &&& σ 9 j) 16 : Int) - 5 * (pcn (σ 9 i ^^^ σ 9 j) 16 : Int) := by rw [pk_sub_toInt (by omega) (by omega)]; omega
    have e2 : (nI (σ 10 i) - nI (σ 10 j)).toInt = (σ 10 i : Int) - σ 10 j := pk_sub_toInt (by omega) (by omega)
    rw [e2] at c_53
    exact xe_i hx hb hr rfl hlocks hW ⟨rfl, by show Int32.toInt _ = _; rw [x_subI (by rw [e1, e2]; omega) (by rw [e1, e2]; omega), e1, e2]; unfold lk; rw [if_neg (by omega)]⟩ (Nat.le_refl _) (Nat.le_refl _) dX5_likes_63
  · -- ge not
    have c_53 : ¬ (((0 : Int32)).toInt ≤ ((nI (σ 10 i)) - (nI (σ 10 j))).toInt) := fun h => c_53 (Int32.le_iff_toInt_le.mpr h)
    rw [x_t0] at c_53
    refine lv_iload_n hx hb dX5_likes_56 rfl (lv_at hl 3 rfl) ?_
    refine lv_ineg hx hb dX5_likes_57 ?_
    refine lv_goto (tgt := 62) hx hb dX5_likes_58 (by decide) ?_
    refine lv_isub hx hb dX5_likes_62 ?_
    have q1 := hs10 i hi
    have q2 := hs10 j hj
    have e1 : (nI (10 * pcn (σ 9 i &&& σ 9 j) 16) - nI (5 * pcn (σ 9 i ^^^ σ 9 j) 16)).toInt = 10 * (pcn (σ 9 i &&& σ 9 j) 16 : Int) - 5 * (pcn (σ 9 i ^^^ σ 9 j) 16 : Int) := by rw [pk_sub_toInt (by omega) (by omega)]; omega
    have e2 : (nI (σ 10 i) - nI (σ 10 j)).toInt = (σ 10 i : Int) - σ 10 j := pk_sub_toInt (by omega) (by omega)
    rw [e2] at c_53
    have e3 : (-(nI (σ 10 i) - nI (σ 10 j))).toInt = -((σ 10 i : Int) - σ 10 j) := by rw [x_negI (by rw [e2]; omega), e2]
    have e4 : ∀ z : Int32, z.toInt = lk σ i j → z.toInt = lk σ i j := fun _ h => h
    exact xe_i hx hb hr rfl hlocks hW ⟨rfl, by show Int32.toInt _ = _; rw [x_subI (by rw [e1, e3]; omega) (by rw [e1, e3]; omega), e1, e3]; unfold lk; rw [if_pos (by omega)]⟩ (Nat.le_refl _) (Nat.le_refl _) dX5_likes_63

set_option maxHeartbeats 4000000 in
set_option maxRecDepth 100000 in
theorem c_X5_likeness (l : Launch) (D : xD) (sa : Nat → Nat) (xa : xA) (G0 : xG) (σ : Sg) (ρ : Nat → Nat) (la : Nat) (hg : Gd σ) (t q : Int32) : xCi l yX5_likeness wsX5_likeness ({ frames := 18, cells := 0, slots := 0, locals := 600 } : Room) D sa xa (mG G0 D xa σ ρ la) [.ref (xa 20 0), .int t, .int q] (fun r u => ∃ k, gk (pT σ t ∧ pT σ q) True True k ∧ u = (xa, mG G0 D xa (σ) ρ k) ∧ (k = 0 → r.toInt = lk σ (xn t) (xn q))) 0 0 := by
  have hB := hg.1
  have h5 := hg.2.1.1
  have h7 := hg.2.1.2.1
  have h12 := hg.2.1.2.2.1
  have hy0 := hg.2.1.2.2.2.1
  have hy1 := hg.2.1.2.2.2.2
  have hm := hg.hm
  have hs8 := hg.hs8
  intro sz
  refine Met.ofW (cc := cX5_likeness) (maxL := 3) (ret := (some .int)) (by decide +kernel) rfl ?_
  intro p e s m args below meth c s₁ B hml hv
  obtain ⟨rfl, hsz, hv2⟩ := hv
  subst hsz
  have hx := B.exec
  have hb := B.bytes
  have hr := B.returns
  have hts := atoms_spec (ws := wsX5_likeness) B.pre
  have hown : s.vm.findClass RX5 = some m.cls := findClass_of_methodNamed B.named
  have hlocks := B.notSynchronized
  have hin5 : ∀ w ∈ wsX50, w ∈ wsX5_likeness := by decide +kernel
  have hW := xW.start (s := s) ⟨rfl, hv2⟩
  clear hv2
  generalize xAw xa (mG G0 D xa σ ρ la) s.heap.size = A at hW ⊢
  have hl := lv_entry ([.ref (xa 20 0), .int (t), .int (q)]) (n := 3) (Nat.le_of_ble_eq_true rfl)
  rw [lg_entry_eq]
  generalize (lg_sl ([.ref (xa 20 0), .int (t), .int (q)]) ++ List.replicate (3 - (lg_sl ([.ref (xa 20 0), .int (t), .int (q)])).length) Slot.unset).toArray = ls at hl ⊢
  have hl : lv_has ls 3 [(0, .ref (xa 20 0)), (1, .int (t)), (2, .int (q))] := hl
  refine lv_aload_n hx hb dX5_likeness_0 rfl (lv_at hl 0 rfl) ?_
  refine x_joinW (ls := ls) (D := D) (sa := sa) (A := A) (xa := xa) (G := mG G0 D xa σ ρ la) (P := pT σ t ∧ pT σ q) (mpc := 22) (rest := [.ref (xa 20 0)]) (fun H locs r_22 hW h_22 => ?_) (fun J22 => ?_)
  ·
    refine lv_iconst (v := nI (1)) hx hb dX5_likeness_22 (by decide +kernel) ?_
    refine lv_iconst (v := nI (1)) hx hb dX5_likeness_23 (by decide +kernel) ?_
    refine xv_i (As := [.int (r_22), .int (nI (1)), .int (nI (1))]) (rest := []) ⟨hx, hb, hml, hown, hts⟩ (c_X5_goes l D sa xa G0 σ ρ la hB h_22 (tv.one trivial) (tv.one trivial)) (cwV 3 hts gX5_likeness_X5_goes rfl rfl rfl (by decide +kernel) ⟨Nat.le_of_ble_eq_true rfl, Nat.le_of_ble_eq_true rfl⟩) hW (mG_obj _ _ _ _ _ _) rfl rfl rfl rfl hl.1 (Nat.le_of_ble_eq_true rfl) dX5_likeness_24 ⟨Nat.le_of_ble_eq_true rfl, Nat.le_of_ble_eq_true rfl⟩ (fun r_24 xa1 G1 H locs hp hW => ?_)
    obtain ⟨la1, hu, hr_24, hk⟩ := hp
    cases hu
    refine lv_if_eq (tgt := 39) hx hb dX5_likeness_27 (by decide) (fun c_27 => ?_) (fun c_27 => ?_)
    · -- eq taken
      have c_27 := hr_24.f c_27
      refine lv_iconst (v := nI (0)) hx hb dX5_likeness_39 (by decide +kernel) ?_
      exact xe_i hx hb hr rfl hlocks hW ⟨la1, hk, rfl, fun h => absurd h c_27⟩ (Nat.le_refl _) (Nat.le_refl _) dX5_likeness_40
    · -- eq not
      have c_27 := hr_24.t c_27
      subst c_27
      obtain ⟨hz1, hz2, hz3⟩ := hk.zero
      have hu_ti := hz1.1
      unfold pT at hu_ti
      obtain ⟨ti, hti, rfl⟩ := x_nat (n := σ 12 0) (x := t) (by omega) (by omega)
      have hu_qi := hz1.2
      unfold pT at hu_qi
      obtain ⟨qi, hqi, rfl⟩ := x_nat (n := σ 12 0) (x := q) (by omega) (by omega)
      refine lv_aload_n hx hb dX5_likeness_30 rfl (lv_at hl 0 rfl) ?_
      refine lv_iload_n hx hb dX5_likeness_31 rfl (lv_at hl 1 rfl) ?_
      refine lv_iload_n hx hb dX5_likeness_32 rfl (lv_at hl 2 rfl) ?_
      refine xv_i (As := [.int (nI (ti)), .int (nI (qi))]) (rest := []) ⟨hx, hb, hml, hown, hts⟩ (c_X5_likes l D sa xa G0 σ ρ 0 hg ti qi (by omega) (by omega)) (cwV 2 hts gX5_likeness_X5_likes rfl rfl rfl (by decide +kernel) ⟨Nat.le_of_ble_eq_true rfl, Nat.le_of_ble_eq_true rfl⟩) hW (mG_obj _ _ _ _ _ _) rfl rfl rfl rfl hl.1 (Nat.le_of_ble_eq_true rfl) dX5_likeness_33 ⟨Nat.le_of_ble_eq_true rfl, Nat.le_of_ble_eq_true rfl⟩ (fun r_33 xa1 G1 H locs hp hW => ?_)
      obtain ⟨hu, hr_33⟩ := hp
      cases hu
      refine lv_goto (tgt := 40) hx hb dX5_likeness_36 (by decide) ?_
      exact xe_i hx hb hr rfl hlocks hW ⟨0, hk, rfl, fun _ => by rw [xn_nI (by omega), xn_nI (by omega)]; exact hr_33⟩ (Nat.le_refl _) (Nat.le_refl _) dX5_likeness_40
  ·
    refine lv_aload_n hx hb dX5_likeness_1 rfl (lv_at hl 0 rfl) ?_
    refine lv_iload_n hx hb dX5_likeness_2 rfl (lv_at hl 1 rfl) ?_
    refine xv_i (As := [.int (t)]) (rest := [.ref (xa 20 0)]) ⟨hx, hb, hml, hown, hts⟩ (c_X5_isThing l D sa xa G0 σ ρ la hB t) (cwV 1 hts gX5_likeness_X5_isThing rfl rfl rfl (by decide +kernel) ⟨Nat.le_of_ble_eq_true rfl, Nat.le_of_ble_eq_true rfl⟩) hW (mG_obj _ _ _ _ _ _) rfl rfl rfl rfl hl.1 (Nat.le_of_ble_eq_true rfl) dX5_likeness_3 ⟨Nat.le_of_ble_eq_true rfl, Nat.le_of_ble_eq_true rfl⟩ (fun r_3 xa1 G1 H locs hp hW => ?_)
    obtain ⟨hu, hr_3⟩ := hp
    cases hu
    refine lv_if_eq (tgt := 21) hx hb dX5_likeness_6 (by decide) (fun c_6 => ?_) (fun c_6 => ?_)
    · -- eq taken
      have c_6 := hr_3.f c_6
      refine lv_iconst (v := nI (0)) hx hb dX5_likeness_21 (by decide +kernel) ?_
      exact J22 _ _ _ hW (tv.zero (by first | exact fun h => c_6 h.1 | exact fun h => c_14 h.2))
    · -- eq not
      have c_6 := hr_3.t c_6
      refine lv_aload_n hx hb dX5_likeness_9 rfl (lv_at hl 0 rfl) ?_
      refine lv_iload_n hx hb dX5_likeness_10 rfl (lv_at hl 2 rfl) ?_
      refine xv_i (As := [.int (q)]) (rest := [.ref (xa 20 0)]) ⟨hx, hb, hml, hown, hts⟩ (c_X5_isThing l D sa xa G0 σ ρ la hB q) (cwV 1 hts gX5_likeness_X5_isThing rfl rfl rfl (by decide +kernel) ⟨Nat.le_of_ble_eq_true rfl, Nat.le_of_ble_eq_true rfl⟩) hW (mG_obj _ _ _ _ _ _) rfl rfl rfl rfl hl.1 (Nat.le_of_ble_eq_true rfl) dX5_likeness_11 ⟨Nat.le_of_ble_eq_true rfl, Nat.le_of_ble_eq_true rfl⟩ (fun r_11 xa1 G1 H locs hp hW => ?_)
      obtain ⟨hu, hr_11⟩ := hp
      cases hu
      refine lv_if_eq (tgt := 21) hx hb dX5_likeness_14 (by decide) (fun c_14 => ?_) (fun c_14 => ?_)
      · -- eq taken
        have c_14 := hr_11.f c_14
        refine lv_iconst (v := nI (0)) hx hb dX5_likeness_21 (by decide +kernel) ?_
        exact J22 _ _ _ hW (tv.zero (by first | exact fun h => c_6 h.1 | exact fun h => c_14 h.2))
      · -- eq not
        have c_14 := hr_11.t c_14
        refine lv_iconst (v := nI (1)) hx hb dX5_likeness_17 (by decide +kernel) ?_
        refine lv_goto (tgt := 22) hx hb dX5_likeness_18 (by decide) ?_
        exact J22 _ _ _ hW (tv.one (⟨c_6, c_14⟩))

set_option maxHeartbeats 4000000 in
set_option maxRecDepth 100000 in
theorem c_X5_likest (l : Launch) (D : xD) (sa : Nat → Nat) (xa : xA) (G0 : xG) (σ : Sg) (ρ : Nat → Nat) (la : Nat) (hg : Gd σ) (t : Int32) : xCi l yX5_likest wsX5_likest ({ frames := 18, cells := 0, slots := 0, locals := 600 } : Room) D sa xa (mG G0 D xa σ ρ la) [.ref (xa 20 0), .int t] (fun r u => ∃ k, gk (pT σ t) True True k ∧ u = (xa, mG G0 D xa (σ) ρ k) ∧ (k = 0 → r = oi (lst σ (xn t) (σ 12 0)))) 0 0 := by
  have hB := hg.1
  have h5 := hg.2.1.1
  have h7 := hg.2.1.2.1
  have h12 := hg.2.1.2.2.1
  have hy0 := hg.2.1.2.2.2.1
  have hy1 := hg.2.1.2.2.2.2
  have hm := hg.hm
  have hs8 := hg.hs8
  intro sz
  refine Met.ofW (cc := cX5_likest) (maxL := 4) (ret := (some .int)) (by decide +kernel) rfl ?_
  intro p e s m args below meth c s₁ B hml hv
  obtain ⟨rfl, hsz, hv2⟩ := hv
  subst hsz
  have hx := B.exec
  have hb := B.bytes
  have hr := B.returns
  have hts := atoms_spec (ws := wsX5_likest) B.pre
  have hown : s.vm.findClass RX5 = some m.cls := findClass_of_methodNamed B.named
  have hlocks := B.notSynchronized
  have hin5 : ∀ w ∈ wsX50, w ∈ wsX5_likest := by decide +kernel
  have hW := xW.start (s := s) ⟨rfl, hv2⟩
  clear hv2
  generalize xAw xa (mG G0 D xa σ ρ la) s.heap.size = A at hW ⊢
  have hl := lv_entry ([.ref (xa 20 0), .int (t)]) (n := 4) (Nat.le_of_ble_eq_true rfl)
  rw [lg_entry_eq]
  generalize (lg_sl ([.ref (xa 20 0), .int (t)]) ++ List.replicate (4 - (lg_sl ([.ref (xa 20 0), .int (t)])).length) Slot.unset).toArray = ls at hl ⊢
  have hl : lv_has ls 4 [(0, .ref (xa 20 0)), (1, .int (t))] := hl
  refine lv_aload_n hx hb dX5_likest_0 rfl (lv_at hl 0 rfl) ?_
  refine lv_aload_n hx hb dX5_likest_1 rfl (lv_at hl 0 rfl) ?_
  refine lv_iload_n hx hb dX5_likest_2 rfl (lv_at hl 1 rfl) ?_
  refine xv_i (As := [.int (t)]) (rest := [.ref (xa 20 0)]) ⟨hx, hb, hml, hown, hts⟩ (c_X5_isThing l D sa xa G0 σ ρ la hB t) (cwV 1 hts gX5_likest_X5_isThing rfl rfl rfl (by decide +kernel) ⟨Nat.le_of_ble_eq_true rfl, Nat.le_of_ble_eq_true rfl⟩) hW (mG_obj _ _ _ _ _ _) rfl rfl rfl rfl hl.1 (Nat.le_of_ble_eq_true rfl) dX5_likest_3 ⟨Nat.le_of_ble_eq_true rfl, Nat.le_of_ble_eq_true rfl⟩ (fun r_3 xa1 G1 H locs hp hW => ?_)
  obtain ⟨hu, hr_3⟩ := hp
  cases hu
  refine lv_iconst (v := nI (1)) hx hb dX5_likest_6 (by decide +kernel) ?_
  refine lv_iconst (v := nI (1)) hx hb dX5_likest_7 (by decide +kernel) ?_
  refine xv_i (As := [.int (r_3), .int (nI (1)), .int (nI (1))]) (rest := []) ⟨hx, hb, hml, hown, hts⟩ (c_X5_goes l D sa xa G0 σ ρ la hB hr_3 (tv.one trivial) (tv.one trivial)) (cwV 3 hts gX5_likest_X5_goes rfl rfl rfl (by decide +kernel) ⟨Nat.le_of_ble_eq_true rfl, Nat.le_of_ble_eq_true rfl⟩) hW (mG_obj _ _ _ _ _ _) rfl rfl rfl rfl hl.1 (Nat.le_of_ble_eq_true rfl) dX5_likest_8 ⟨Nat.le_of_ble_eq_true rfl, Nat.le_of_ble_eq_true rfl⟩ (fun r_8 xa1 G1 H locs hp hW => ?_)
  obtain ⟨la1, hu, hr_8, hk⟩ := hp
  cases hu
  have hk0 := hk
  refine lv_if_ne (tgt := 16) hx hb dX5_likest_11 (by decide) (fun c_11 => ?_) (fun c_11 => ?_)
  · -- ne taken
    have c_11 := hr_8.t c_11
    subst c_11
    obtain ⟨hz1, hz2, hz3⟩ := hk.zero
    have hu_ti := hz1
    unfold pT at hu_ti
    obtain ⟨ti, hti, rfl⟩ := x_nat (n := σ 12 0) (x := t) (by omega) (by omega)
    refine lv_iconst (v := -1) hx hb dX5_likest_16 (by decide +kernel) ?_
    refine lv_istore_n (lv' := [(2, .int (-1)), (0, .ref (xa 20 0)), (1, .int (nI (ti)))]) hx hb dX5_likest_17 rfl hl (by decide) rfl (fun ls hl => ?_)
    have hl : lv_has ls 4 [(0, .ref (xa 20 0)), (1, .int (nI (ti))), (2, .int (-1))] := lv_sub hl [1, 2, 0] rfl
    refine lv_iconst (v := nI (0)) hx hb dX5_likest_18 (by decide +kernel) ?_
    refine lv_istore_n (lv' := [(3, .int (nI (0))), (0, .ref (xa 20 0)), (1, .int (nI (ti))), (2, .int (-1))]) hx hb dX5_likest_19 rfl hl (by decide) rfl (fun ls hl => ?_)
    have hl : lv_has ls 4 [(0, .ref (xa 20 0)), (1, .int (nI (ti))), (2, .int (-1)), (3, .int (nI (0)))] := lv_sub hl [1, 2, 3, 0] rfl
    refine x_loop (X := Nat) (I := fun n xv H locs ls => n = σ 12 0 - xv ∧ xW D sa A s xa (mG G0 D xa σ ρ 0) H locs ∧ lv_has ls 4 [(0, .ref (xa 20 0)), (1, .int (nI (ti))), (2, .int (oi (lst σ ti xv))), (3, .int (nI (xv)))] ∧ (xv ≤ σ 12 0)) (hd := 20) ?_ (n := _) (x := (0)) ⟨rfl, hW, hl, by (try dsimp only); omega⟩
    rintro n k H locs ls ⟨hn, hW, hl, hk⟩ ih20
    try dsimp only at hn hW hl hk
    refine lv_iload_n hx hb dX5_likest_20 rfl (lv_at hl 3 rfl) ?_
    refine lv_aload_n hx hb dX5_likest_21 rfl (lv_at hl 0 rfl) ?_
    refine m_get hx hb hts hin5 hown hW 12 (by decide) rfl (hts (.fieldLink RX5 73 "RestitutoryModel" "things" "I") (by decide +kernel)) (v := .int (nI (σ 12 0))) rfl dX5_likest_22 ?_
    have b_22 := hB 12 0
    refine lv_icmp_ge (tgt := 65) hx hb dX5_likest_25 (by decide) (fun c_25 => ?_) (fun c_25 => ?_)
    · -- ge taken
      have c_25 := Int32.le_iff_toInt_le.mp c_25
      rw [nI_toInt (n := k) (by omega)] at c_25
      rw [nI_toInt (n := σ 12 0) (by omega)] at c_25
      refine lv_iload_n hx hb dX5_likest_65 rfl (lv_at hl 2 rfl) ?_
      exact xe_i hx hb hr rfl hlocks hW ⟨0, hk0, rfl, fun _ => by rw [xn_nI (by omega), show k = σ 12 0 by omega]⟩ (Nat.le_refl _) (Nat.le_refl _) dX5_likest_66
    · -- ge not
      have c_25 : ¬ ((nI (σ 12 0)).toInt ≤ (nI (k)).toInt) := fun h => c_25 (Int32.le_iff_toInt_le.mpr h)
      rw [nI_toInt (n := k) (by omega)] at c_25
      rw [nI_toInt (n := σ 12 0) (by omega)] at c_25
      rcases ho : lst σ ti k with _ | b
      ·
        rw [ho] at hl
        have hl : lv_has ls 4 [(0, .ref (xa 20 0)), (1, .int (nI (ti))), (2, .int (-1)), (3, .int (nI (k)))] := hl
        refine lv_iload_n hx hb dX5_likest_28 rfl (lv_at hl 3 rfl) ?_
        refine lv_iload_n hx hb dX5_likest_29 rfl (lv_at hl 1 rfl) ?_
        refine lv_icmp_eq (tgt := 57) hx hb dX5_likest_30 (by decide) (fun c_30 => ?_) (fun c_30 => ?_)
        · -- eq taken
          have c_30 := (x_eqN (a := k) (b := ti) (by omega) (by omega)).mp c_30
          refine lv_iload_n hx hb dX5_likest_57 rfl (lv_at hl 2 rfl) ?_
          refine lv_istore_n (lv' := [(2, .int (-1)), (0, .ref (xa 20 0)), (1, .int (nI (ti))), (3, .int (nI (k)))]) hx hb dX5_likest_58 rfl hl (by decide) rfl (fun ls hl => ?_)
          have hl : lv_has ls 4 [(0, .ref (xa 20 0)), (1, .int (nI (ti))), (2, .int (-1)), (3, .int (nI (k)))] := lv_sub hl [1, 2, 0, 3] rfl
          refine lv_iinc (v := nI (k + 1)) (lv' := [(3, .int (nI (k + 1))), (0, .ref (xa 20 0)), (1, .int (nI (ti))), (2, .int (-1))]) hx hb dX5_likest_59 hl (k := 3) rfl (x_inc k 1 rfl) (by decide) rfl (fun ls hl => ?_)
          have hl : lv_has ls 4 [(0, .ref (xa 20 0)), (1, .int (nI (ti))), (2, .int (-1)), (3, .int (nI (k + 1)))] := lv_sub hl [1, 2, 3, 0] rfl
          refine lv_goto (tgt := 20) hx hb dX5_likest_62 (by decide) ?_
          have hX : (-1 : Int32) = oi (lst σ ti (k + 1)) := by
            have e0 : lst σ ti (k + 1) = (match lst σ ti k with | none => if k = ti then none else some k | some b => if k ≠ ti ∧ lk σ ti b < lk σ ti k then some k else some b) := rfl
            rw [e0, ho]
            dsimp only
            rw [if_pos c_30]
            rfl
          rw [hX] at hl
          exact ih20 (σ 12 0 - (k + 1)) (k + 1) _ _ _ (by omega) ⟨rfl, hW, hl, by (try dsimp only); omega⟩
        · -- eq not
          have c_30 : ¬ (k = ti) := fun h_ => c_30 ((x_eqN (a := k) (b := ti) (by omega) (by omega)).mpr h_)
          refine lv_iload_n hx hb dX5_likest_33 rfl (lv_at hl 2 rfl) ?_
          refine lv_iconst (v := -1) hx hb dX5_likest_34 (by decide +kernel) ?_
          refine lv_icmp_eq (tgt := 53) hx hb dX5_likest_35 (by decide) (fun c_35 => ?_) (fun c_35 => ?_)
          · -- eq taken
            refine lv_iload_n hx hb dX5_likest_53 rfl (lv_at hl 3 rfl) ?_
            refine lv_goto (tgt := 58) hx hb dX5_likest_54 (by decide) ?_
            refine lv_istore_n (lv' := [(2, .int (nI (k))), (0, .ref (xa 20 0)), (1, .int (nI (ti))), (3, .int (nI (k)))]) hx hb dX5_likest_58 rfl hl (by decide) rfl (fun ls hl => ?_)
            have hl : lv_has ls 4 [(0, .ref (xa 20 0)), (1, .int (nI (ti))), (2, .int (nI (k))), (3, .int (nI (k)))] := lv_sub hl [1, 2, 0, 3] rfl
            refine lv_iinc (v := nI (k + 1)) (lv' := [(3, .int (nI (k + 1))), (0, .ref (xa 20 0)), (1, .int (nI (ti))), (2, .int (nI (k)))]) hx hb dX5_likest_59 hl (k := 3) rfl (x_inc k 1 rfl) (by decide) rfl (fun ls hl => ?_)
            have hl : lv_has ls 4 [(0, .ref (xa 20 0)), (1, .int (nI (ti))), (2, .int (nI (k))), (3, .int (nI (k + 1)))] := lv_sub hl [1, 2, 3, 0] rfl
            refine lv_goto (tgt := 20) hx hb dX5_likest_62 (by decide) ?_
            have hX : nI (k) = oi (lst σ ti (k + 1)) := by
              have e0 : lst σ ti (k + 1) = (match lst σ ti k with | none => if k = ti then none else some k | some b => if k ≠ ti ∧ lk σ ti b < lk σ ti k then some k else some b) := rfl
              rw [e0, ho]
              dsimp only
              rw [if_neg c_30]
              rfl
            rw [hX] at hl
            exact ih20 (σ 12 0 - (k + 1)) (k + 1) _ _ _ (by omega) ⟨rfl, hW, hl, by (try dsimp only); omega⟩
          · -- eq not
            exact absurd rfl c_35
      ·
        rw [ho] at hl
        have hl : lv_has ls 4 [(0, .ref (xa 20 0)), (1, .int (nI (ti))), (2, .int (nI (b))), (3, .int (nI (k)))] := hl
        have hbk := lst_lt ho
        refine lv_iload_n hx hb dX5_likest_28 rfl (lv_at hl 3 rfl) ?_
        refine lv_iload_n hx hb dX5_likest_29 rfl (lv_at hl 1 rfl) ?_
        refine lv_icmp_eq (tgt := 57) hx hb dX5_likest_30 (by decide) (fun c_30 => ?_) (fun c_30 => ?_)
        · -- eq taken
          have c_30 := (x_eqN (a := k) (b := ti) (by omega) (by omega)).mp c_30
          refine lv_iload_n hx hb dX5_likest_57 rfl (lv_at hl 2 rfl) ?_
          refine lv_istore_n (lv' := [(2, .int (nI (b))), (0, .ref (xa 20 0)), (1, .int (nI (ti))), (3, .int (nI (k)))]) hx hb dX5_likest_58 rfl hl (by decide) rfl (fun ls hl => ?_)
          have hl : lv_has ls 4 [(0, .ref (xa 20 0)), (1, .int (nI (ti))), (2, .int (nI (b))), (3, .int (nI (k)))] := lv_sub hl [1, 2, 0, 3] rfl
          refine lv_iinc (v := nI (k + 1)) (lv' := [(3, .int (nI (k + 1))), (0, .ref (xa 20 0)), (1, .int (nI (ti))), (2, .int (nI (b)))]) hx hb dX5_likest_59 hl (k := 3) rfl (x_inc k 1 rfl) (by decide) rfl (fun ls hl => ?_)
          have hl : lv_has ls 4 [(0, .ref (xa 20 0)), (1, .int (nI (ti))), (2, .int (nI (b))), (3, .int (nI (k + 1)))] := lv_sub hl [1, 2, 3, 0] rfl
          refine lv_goto (tgt := 20) hx hb dX5_likest_62 (by decide) ?_
          have hX : nI (b) = oi (lst σ ti (k + 1)) := by
            have e0 : lst σ ti (k + 1) = (match lst σ ti k with | none => if k = ti then none else some k | some b => if k ≠ ti ∧ lk σ ti b < lk σ ti k then some k else some b) := rfl
            rw [e0, ho]
            dsimp only
            rw [if_neg (fun h => h.1 c_30)]
            rfl
          rw [hX] at hl
          exact ih20 (σ 12 0 - (k + 1)) (k + 1) _ _ _ (by omega) ⟨rfl, hW, hl, by (try dsimp only); omega⟩
        · -- eq not
          have c_30 : ¬ (k = ti) := fun h_ => c_30 ((x_eqN (a := k) (b := ti) (by omega) (by omega)).mpr h_)
          refine lv_iload_n hx hb dX5_likest_33 rfl (lv_at hl 2 rfl) ?_
          refine lv_iconst (v := -1) hx hb dX5_likest_34 (by decide +kernel) ?_
          refine lv_icmp_eq (tgt := 53) hx hb dX5_likest_35 (by decide) (fun c_35 => ?_) (fun c_35 => ?_)
          · -- eq taken
            have c_35t := congrArg Int32.toInt c_35
            rw [nI_toInt (n := b) (by omega)] at c_35t
            rw [x_tm1] at c_35t
            exact absurd c_35t (by omega)
          · -- eq not
            have c_35t : ¬ (nI (b)).toInt = ((-1 : Int32)).toInt := fun h => c_35 (Int32.toInt_inj.mp h)
            rw [nI_toInt (n := b) (by omega)] at c_35t
            rw [x_tm1] at c_35t
            refine lv_aload_n hx hb dX5_likest_38 rfl (lv_at hl 0 rfl) ?_
            refine lv_iload_n hx hb dX5_likest_39 rfl (lv_at hl 1 rfl) ?_
            refine lv_iload_n hx hb dX5_likest_40 rfl (lv_at hl 3 rfl) ?_
            refine xv_i (As := [.int (nI (ti)), .int (nI (k))]) (rest := []) ⟨hx, hb, hml, hown, hts⟩ (c_X5_likes l D sa xa G0 σ ρ 0 hg ti k (by omega) (by omega)) (cwV 2 hts gX5_likest_X5_likes rfl rfl rfl (by decide +kernel) ⟨Nat.le_of_ble_eq_true rfl, Nat.le_of_ble_eq_true rfl⟩) hW (mG_obj _ _ _ _ _ _) rfl rfl rfl rfl hl.1 (Nat.le_of_ble_eq_true rfl) dX5_likest_41 ⟨Nat.le_of_ble_eq_true rfl, Nat.le_of_ble_eq_true rfl⟩ (fun r_41 xa1 G1 H locs hp hW => ?_)
            obtain ⟨hu, hr_41⟩ := hp
            cases hu
            refine lv_aload_n hx hb dX5_likest_44 rfl (lv_at hl 0 rfl) ?_
            refine lv_iload_n hx hb dX5_likest_45 rfl (lv_at hl 1 rfl) ?_
            refine lv_iload_n hx hb dX5_likest_46 rfl (lv_at hl 2 rfl) ?_
            refine xv_i (As := [.int (nI (ti)), .int (nI (b))]) (rest := [.int (r_41)]) ⟨hx, hb, hml, hown, hts⟩ (c_X5_likes l D sa xa G0 σ ρ 0 hg ti b (by omega) (by omega)) (cwV 2 hts gX5_likest_X5_likes rfl rfl rfl (by decide +kernel) ⟨Nat.le_of_ble_eq_true rfl, Nat.le_of_ble_eq_true rfl⟩) hW (mG_obj _ _ _ _ _ _) rfl rfl rfl rfl hl.1 (Nat.le_of_ble_eq_true rfl) dX5_likest_47 ⟨Nat.le_of_ble_eq_true rfl, Nat.le_of_ble_eq_true rfl⟩ (fun r_47 xa1 G1 H locs hp hW => ?_)
            obtain ⟨hu, hr_47⟩ := hp
            cases hu
            refine lv_icmp_le (tgt := 57) hx hb dX5_likest_50 (by decide) (fun c_50 => ?_) (fun c_50 => ?_)
            · -- le taken
              have c_50 := Int32.le_iff_toInt_le.mp c_50
              rw [hr_41, hr_47] at c_50
              have c_50 : ¬ lk σ ti b < lk σ ti k := by omega
              refine lv_iload_n hx hb dX5_likest_57 rfl (lv_at hl 2 rfl) ?_
              refine lv_istore_n (lv' := [(2, .int (nI (b))), (0, .ref (xa 20 0)), (1, .int (nI (ti))), (3, .int (nI (k)))]) hx hb dX5_likest_58 rfl hl (by decide) rfl (fun ls hl => ?_)
              have hl : lv_has ls 4 [(0, .ref (xa 20 0)), (1, .int (nI (ti))), (2, .int (nI (b))), (3, .int (nI (k)))] := lv_sub hl [1, 2, 0, 3] rfl
              refine lv_iinc (v := nI (k + 1)) (lv' := [(3, .int (nI (k + 1))), (0, .ref (xa 20 0)), (1, .int (nI (ti))), (2, .int (nI (b)))]) hx hb dX5_likest_59 hl (k := 3) rfl (x_inc k 1 rfl) (by decide) rfl (fun ls hl => ?_)
              have hl : lv_has ls 4 [(0, .ref (xa 20 0)), (1, .int (nI (ti))), (2, .int (nI (b))), (3, .int (nI (k + 1)))] := lv_sub hl [1, 2, 3, 0] rfl
              refine lv_goto (tgt := 20) hx hb dX5_likest_62 (by decide) ?_
              have hX : nI (b) = oi (lst σ ti (k + 1)) := by
                have e0 : lst σ ti (k + 1) = (match lst σ ti k with | none => if k = ti then none else some k | some b => if k ≠ ti ∧ lk σ ti b < lk σ ti k then some k else some b) := rfl
                rw [e0, ho]
                dsimp only
                rw [if_neg (fun h => c_50 h.2)]
                rfl
              rw [hX] at hl
              exact ih20 (σ 12 0 - (k + 1)) (k + 1) _ _ _ (by omega) ⟨rfl, hW, hl, by (try dsimp only); omega⟩
            · -- le not
              have c_50 : ¬ ((r_41).toInt ≤ (r_47).toInt) := fun h => c_50 (Int32.le_iff_toInt_le.mpr h)
              rw [hr_41, hr_47] at c_50
              have c_50 : lk σ ti b < lk σ ti k := by omega
              refine lv_iload_n hx hb dX5_likest_53 rfl (lv_at hl 3 rfl) ?_
              refine lv_goto (tgt := 58) hx hb dX5_likest_54 (by decide) ?_
              refine lv_istore_n (lv' := [(2, .int (nI (k))), (0, .ref (xa 20 0)), (1, .int (nI (ti))), (3, .int (nI (k)))]) hx hb dX5_likest_58 rfl hl (by decide) rfl (fun ls hl => ?_)
              have hl : lv_has ls 4 [(0, .ref (xa 20 0)), (1, .int (nI (ti))), (2, .int (nI (k))), (3, .int (nI (k)))] := lv_sub hl [1, 2, 0, 3] rfl
              refine lv_iinc (v := nI (k + 1)) (lv' := [(3, .int (nI (k + 1))), (0, .ref (xa 20 0)), (1, .int (nI (ti))), (2, .int (nI (k)))]) hx hb dX5_likest_59 hl (k := 3) rfl (x_inc k 1 rfl) (by decide) rfl (fun ls hl => ?_)
              have hl : lv_has ls 4 [(0, .ref (xa 20 0)), (1, .int (nI (ti))), (2, .int (nI (k))), (3, .int (nI (k + 1)))] := lv_sub hl [1, 2, 3, 0] rfl
              refine lv_goto (tgt := 20) hx hb dX5_likest_62 (by decide) ?_
              have hX : nI (k) = oi (lst σ ti (k + 1)) := by
                have e0 : lst σ ti (k + 1) = (match lst σ ti k with | none => if k = ti then none else some k | some b => if k ≠ ti ∧ lk σ ti b < lk σ ti k then some k else some b) := rfl
                rw [e0, ho]
                dsimp only
                rw [if_pos ⟨c_30, c_50⟩]
                rfl
              rw [hX] at hl
              exact ih20 (σ 12 0 - (k + 1)) (k + 1) _ _ _ (by omega) ⟨rfl, hW, hl, by (try dsimp only); omega⟩
  · -- ne not
    have c_11 := hr_8.f c_11
    refine lv_iconst (v := nI (0)) hx hb dX5_likest_14 (by decide +kernel) ?_
    exact xe_i hx hb hr rfl hlocks hW ⟨la1, hk0, rfl, fun h => absurd h c_11⟩ (Nat.le_refl _) (Nat.le_refl _) dX5_likest_15

set_option maxHeartbeats 4000000 in
set_option maxRecDepth 100000 in
theorem c_X5_mark (l : Launch) (D : xD) (sa : Nat → Nat) (xa : xA) (G0 : xG) (σ : Sg) (ρ : Nat → Nat) (la : Nat) (hg : Gd σ) (t b : Int32) (bn : Nat) (hbn : bn < 2) : xCi l yX5_mark wsX5_mark ({ frames := 18, cells := 0, slots := 0, locals := 600 } : Room) D sa xa (mG G0 D xa σ ρ la) [.ref (xa 20 0), .int t, .int b, .int (nI bn)] (fun r u => ∃ k, gk (pT σ t) (rg b 0 15) True k ∧ u = (xa, mG G0 D xa (t_mark σ t b bn k) ρ k) ∧ (k = 0 → tv r (σ 9 (xn t) / 2 ^ (xn b) % 2 = 1))) 0 0 := by
  have hB := hg.1
  have h5 := hg.2.1.1
  have h7 := hg.2.1.2.1
  have h12 := hg.2.1.2.2.1
  have hy0 := hg.2.1.2.2.2.1
  have hy1 := hg.2.1.2.2.2.2
  have hm := hg.hm
  have hs8 := hg.hs8
  intro sz
  refine Met.ofW (cc := cX5_mark) (maxL := 5) (ret := (some .boolean)) (by decide +kernel) rfl ?_
  intro p e s m args below meth c s₁ B hml hv
  obtain ⟨rfl, hsz, hv2⟩ := hv
  subst hsz
  have hx := B.exec
  have hb := B.bytes
  have hr := B.returns
  have hts := atoms_spec (ws := wsX5_mark) B.pre
  have hown : s.vm.findClass RX5 = some m.cls := findClass_of_methodNamed B.named
  have hlocks := B.notSynchronized
  have hin5 : ∀ w ∈ wsX50, w ∈ wsX5_mark := by decide +kernel
  have hW := xW.start (s := s) ⟨rfl, hv2⟩
  clear hv2
  generalize xAw xa (mG G0 D xa σ ρ la) s.heap.size = A at hW ⊢
  have hl := lv_entry ([.ref (xa 20 0), .int (t), .int (b), .int (nI (bn))]) (n := 5) (Nat.le_of_ble_eq_true rfl)
  rw [lg_entry_eq]
  generalize (lg_sl ([.ref (xa 20 0), .int (t), .int (b), .int (nI (bn))]) ++ List.replicate (5 - (lg_sl ([.ref (xa 20 0), .int (t), .int (b), .int (nI (bn))])).length) Slot.unset).toArray = ls at hl ⊢
  have hl : lv_has ls 5 [(0, .ref (xa 20 0)), (1, .int (t)), (2, .int (b)), (3, .int (nI (bn)))] := hl
  refine lv_aload_n hx hb dX5_mark_0 rfl (lv_at hl 0 rfl) ?_
  refine lv_aload_n hx hb dX5_mark_1 rfl (lv_at hl 0 rfl) ?_
  refine lv_iload_n hx hb dX5_mark_2 rfl (lv_at hl 1 rfl) ?_
  refine xv_i (As := [.int (t)]) (rest := [.ref (xa 20 0)]) ⟨hx, hb, hml, hown, hts⟩ (c_X5_isThing l D sa xa G0 σ ρ la hB t) (cwV 1 hts gX5_mark_X5_isThing rfl rfl rfl (by decide +kernel) ⟨Nat.le_of_ble_eq_true rfl, Nat.le_of_ble_eq_true rfl⟩) hW (mG_obj _ _ _ _ _ _) rfl rfl rfl rfl hl.1 (Nat.le_of_ble_eq_true rfl) dX5_mark_3 ⟨Nat.le_of_ble_eq_true rfl, Nat.le_of_ble_eq_true rfl⟩ (fun r_3 xa1 G1 H locs hp hW => ?_)
  obtain ⟨hu, hr_3⟩ := hp
  cases hu
  refine lv_iload_n hx hb dX5_mark_6 rfl (lv_at hl 2 rfl) ?_
  refine lv_iconst (v := nI (0)) hx hb dX5_mark_7 (by decide +kernel) ?_
  refine lv_bipush (v := nI (15)) hx hb dX5_mark_8 (by decide +kernel) ?_
  refine xs_i (As := [.int (b), .int (nI (0)), .int (nI (15))]) (rest := [.int (r_3), .ref (xa 20 0)]) ⟨hx, hb, hml, hown, hts⟩ (c_X5_in l D sa xa (mG G0 D xa σ ρ la) (b) (nI (0)) (nI (15))) (va_cwS 3 hts gX5_mark_X5_in rfl rfl rfl (by decide +kernel) ⟨Nat.le_of_ble_eq_true rfl, Nat.le_of_ble_eq_true rfl⟩) hW rfl rfl hl.1 (Nat.le_of_ble_eq_true rfl) dX5_mark_10 ⟨Nat.le_of_ble_eq_true rfl, Nat.le_of_ble_eq_true rfl⟩ (fun r_10 xa1 G1 H locs hp hW => ?_)
  obtain ⟨hu, hr_10⟩ := hp
  cases hu
  refine lv_iconst (v := nI (1)) hx hb dX5_mark_13 (by decide +kernel) ?_
  refine xv_i (As := [.int (r_3), .int (r_10), .int (nI (1))]) (rest := []) ⟨hx, hb, hml, hown, hts⟩ (c_X5_goes l D sa xa G0 σ ρ la hB hr_3 hr_10 (tv.one trivial)) (cwV 3 hts gX5_mark_X5_goes rfl rfl rfl (by decide +kernel) ⟨Nat.le_of_ble_eq_true rfl, Nat.le_of_ble_eq_true rfl⟩) hW (mG_obj _ _ _ _ _ _) rfl rfl rfl rfl hl.1 (Nat.le_of_ble_eq_true rfl) dX5_mark_14 ⟨Nat.le_of_ble_eq_true rfl, Nat.le_of_ble_eq_true rfl⟩ (fun r_14 xa1 G1 H locs hp hW => ?_)
  obtain ⟨la1, hu, hr_14, hk⟩ := hp
  cases hu
  have hk0 := hk.to Iff.rfl (fun _ => rg_in (by omega) (by omega)) (fun _ _ => Iff.rfl)
  refine lv_if_ne (tgt := 22) hx hb dX5_mark_17 (by decide) (fun c_17 => ?_) (fun c_17 => ?_)
  · -- ne taken
    have c_17 := hr_14.t c_17
    subst c_17
    obtain ⟨hz1, hz2, hz3⟩ := hk0.zero
    have hu_ti := hz1
    unfold pT at hu_ti
    obtain ⟨ti, hti, rfl⟩ := x_nat (n := σ 12 0) (x := t) (by omega) (by omega)
    have hu_bi := hz2
    unfold rg at hu_bi
    obtain ⟨bi, hbi, rfl⟩ := x_nat (n := 16) (x := b) (by omega) (by omega)
    refine x_joinW (ls := ls) (D := D) (sa := sa) (A := A) (xa := xa) (G := mG G0 D xa σ ρ 0) (P := σ 9 ti / 2 ^ bi % 2 = 1) (mpc := 41) (rest := []) (fun H locs r_41 hW h_41 => ?_) (fun J41 => ?_)
    ·
      refine lv_istore (lv' := [(4, .int (r_41)), (0, .ref (xa 20 0)), (1, .int (nI (ti))), (2, .int (nI (bi))), (3, .int (nI (bn)))]) hx hb dX5_mark_41 hl (by decide) rfl (fun ls hl => ?_)
      have hl : lv_has ls 5 [(0, .ref (xa 20 0)), (1, .int (nI (ti))), (2, .int (nI (bi))), (3, .int (nI (bn))), (4, .int (r_41))] := lv_sub hl [1, 2, 3, 4, 0] rfl
      refine lv_aload_n hx hb dX5_mark_43 rfl (lv_at hl 0 rfl) ?_
      refine m_get hx hb hts hin5 hown hW 9 (by decide) rfl (hts (.fieldLink RX5 33 "RestitutoryModel" "marks" "[I") (by decide +kernel)) (v := .ref (xa 20 9)) rfl dX5_mark_44 ?_
      refine lv_iload_n hx hb dX5_mark_47 rfl (lv_at hl 1 rfl) ?_
      refine lv_iload_n hx hb dX5_mark_48 rfl (lv_at hl 3 rfl) ?_
      refine lv_if_eq (tgt := 65) hx hb dX5_mark_49 (by decide) (fun c_49 => ?_) (fun c_49 => ?_)
      · -- eq taken
        have c_49 := (x_eqZ (a := bn) (by omega)).mp c_49
        refine lv_aload_n hx hb dX5_mark_65 rfl (lv_at hl 0 rfl) ?_
        refine m_get hx hb hts hin5 hown hW 9 (by decide) rfl (hts (.fieldLink RX5 33 "RestitutoryModel" "marks" "[I") (by decide +kernel)) (v := .ref (xa 20 9)) rfl dX5_mark_66 ?_
        refine lv_iload_n hx hb dX5_mark_69 rfl (lv_at hl 1 rfl) ?_
        refine m_ild hx hb hW 9 10 (by unfold mArr; decide) rfl rfl (ti) (by omega) (v := σ 9 ti) rfl dX5_mark_70 ?_
        have b_70 := hB 9 (ti)
        refine lv_iconst (v := nI (1)) hx hb dX5_mark_71 (by decide +kernel) ?_
        refine lv_iload_n hx hb dX5_mark_72 rfl (lv_at hl 2 rfl) ?_
        refine lv_ishl hx hb dX5_mark_73 ?_
        rw [bt_shl (b := bi) (by omega)]
        refine lv_iconst (v := -1) hx hb dX5_mark_74 (by decide +kernel) ?_
        refine lv_ixor hx hb dX5_mark_75 ?_
        rw [bt_m1, nI_xor]
        refine lv_iand hx hb dX5_mark_76 ?_
        rw [nI_and, bt_clr (hB 9 ti)]
        refine m_ist hx hb hW 9 10 (by unfold mArr; decide) rfl rfl (ti) (by omega) (v := σ 9 ti &&& (65535 ^^^ 2 ^ bi)) dX5_mark_77 (fun H locs hW => ?_)
        refine lv_iload hx hb dX5_mark_78 (lv_at hl 4 rfl) ?_
        exact xe_i hx hb hr h_41.nar hlocks hW ⟨0, hk0, by unfold t_mark mkv; simp only [if_true, xn_nI (n := ti) (by omega), xn_nI (n := bi) (by omega)]; rw [if_pos c_49], fun _ => by rw [xn_nI (by omega), xn_nI (by omega)]; exact h_41⟩ (Nat.le_refl _) (Nat.le_refl _) dX5_mark_80
      · -- eq not
        have c_49 : ¬ (bn = 0) := fun h_ => c_49 ((x_eqZ (a := bn) (by omega)).mpr h_)
        refine lv_aload_n hx hb dX5_mark_52 rfl (lv_at hl 0 rfl) ?_
        refine m_get hx hb hts hin5 hown hW 9 (by decide) rfl (hts (.fieldLink RX5 33 "RestitutoryModel" "marks" "[I") (by decide +kernel)) (v := .ref (xa 20 9)) rfl dX5_mark_53 ?_
        refine lv_iload_n hx hb dX5_mark_56 rfl (lv_at hl 1 rfl) ?_
        refine m_ild hx hb hW 9 10 (by unfold mArr; decide) rfl rfl (ti) (by omega) (v := σ 9 ti) rfl dX5_mark_57 ?_
        have b_57 := hB 9 (ti)
        refine lv_iconst (v := nI (1)) hx hb dX5_mark_58 (by decide +kernel) ?_
        refine lv_iload_n hx hb dX5_mark_59 rfl (lv_at hl 2 rfl) ?_
        refine lv_ishl hx hb dX5_mark_60 ?_
        rw [bt_shl (b := bi) (by omega)]
        refine lv_ior hx hb dX5_mark_61 ?_
        rw [nI_or]
        refine lv_goto (tgt := 77) hx hb dX5_mark_62 (by decide) ?_
        refine m_ist hx hb hW 9 10 (by unfold mArr; decide) rfl rfl (ti) (by omega) (v := (σ 9 ti) ||| (2 ^ bi)) dX5_mark_77 (fun H locs hW => ?_)
        refine lv_iload hx hb dX5_mark_78 (lv_at hl 4 rfl) ?_
        exact xe_i hx hb hr h_41.nar hlocks hW ⟨0, hk0, by unfold t_mark mkv; simp only [if_true, xn_nI (n := ti) (by omega), xn_nI (n := bi) (by omega)]; rw [if_neg c_49], fun _ => by rw [xn_nI (by omega), xn_nI (by omega)]; exact h_41⟩ (Nat.le_refl _) (Nat.le_refl _) dX5_mark_80
    ·
      refine lv_aload_n hx hb dX5_mark_22 rfl (lv_at hl 0 rfl) ?_
      refine m_get hx hb hts hin5 hown hW 9 (by decide) rfl (hts (.fieldLink RX5 33 "RestitutoryModel" "marks" "[I") (by decide +kernel)) (v := .ref (xa 20 9)) rfl dX5_mark_23 ?_
      refine lv_iload_n hx hb dX5_mark_26 rfl (lv_at hl 1 rfl) ?_
      refine m_ild hx hb hW 9 10 (by unfold mArr; decide) rfl rfl (ti) (by omega) (v := σ 9 ti) rfl dX5_mark_27 ?_
      have b_27 := hB 9 (ti)
      refine lv_iload_n hx hb dX5_mark_28 rfl (lv_at hl 2 rfl) ?_
      refine lv_ishr hx hb dX5_mark_29 ?_
      rw [bt_shr (m := σ 9 ti) (b := bi) (by omega) (by omega)]
      refine lv_iconst (v := nI (1)) hx hb dX5_mark_30 (by decide +kernel) ?_
      refine lv_iand hx hb dX5_mark_31 ?_
      rw [bt_and1]
      refine lv_iconst (v := nI (1)) hx hb dX5_mark_32 (by decide +kernel) ?_
      refine lv_icmp_ne (tgt := 40) hx hb dX5_mark_33 (by decide) (fun c_33 => ?_) (fun c_33 => ?_)
      · -- ne taken
        have c_33 : ¬ ((σ 9 ti) / 2 ^ bi % 2 = 1) := fun h_ => c_33 ((x_eqN (a := (σ 9 ti) / 2 ^ bi % 2) (b := 1) (by omega) (by omega)).mpr h_)
        refine lv_iconst (v := nI (0)) hx hb dX5_mark_40 (by decide +kernel) ?_
        exact J41 _ _ _ hW (tv.zero (c_33))
      · -- ne not
        have c_33 := (x_eqN (a := (σ 9 ti) / 2 ^ bi % 2) (b := 1) (by omega) (by omega)).mp c_33
        refine lv_iconst (v := nI (1)) hx hb dX5_mark_36 (by decide +kernel) ?_
        refine lv_goto (tgt := 41) hx hb dX5_mark_37 (by decide) ?_
        exact J41 _ _ _ hW (tv.one (c_33))
  · -- ne not
    have c_17 := hr_14.f c_17
    refine lv_iconst (v := nI (0)) hx hb dX5_mark_20 (by decide +kernel) ?_
    exact xe_i hx hb hr rfl hlocks hW ⟨la1, hk0, by unfold t_mark; rw [if_neg c_17], fun h => absurd h c_17⟩ (Nat.le_refl _) (Nat.le_refl _) dX5_mark_21
