set_option maxHeartbeats 4000000 in
set_option maxRecDepth 100000 in
theorem c_J6_bitCount (l : Launch) (D : xD) (sa : Nat → Nat) (xa : xA) (G : xG) (x : Nat) (hx0 : x < 65536) : xCi l yJ6_bitCount_0f7a4 wsJ6_bitCount_0f7a4 ({ frames := 10, cells := 0, slots := 0, locals := 200 } : Room) D sa xa G [.int (nI x)] (fun r u => u = (xa, G) ∧ r = nI (bcN x)) 0 0 := by
  intro sz
  refine Met.ofW (cc := cJ6_bitCount_0f7a4) (maxL := 1) (ret := (some .int)) (by decide +kernel) rfl ?_
  intro p e s m args below meth c s₁ B hml hv
  obtain ⟨rfl, hsz, hv2⟩ := hv
  subst hsz
  have hx := B.exec
  have hb := B.bytes
  have hr := B.returns
  have hts := atoms_spec (ws := wsJ6_bitCount_0f7a4) B.pre
  have hown : s.vm.findClass RJ6 = some m.cls := findClass_of_methodNamed B.named
  have hlocks := B.notSynchronized
  have hW := xW.start (s := s) ⟨rfl, hv2⟩
  clear hv2
  generalize xAw xa (G) s.heap.size = A at hW ⊢
  have hl := lv_entry ([.int (nI (x))]) (n := 1) (Nat.le_of_ble_eq_true rfl)
  rw [lg_entry_eq]
  generalize (lg_sl ([.int (nI (x))]) ++ List.replicate (1 - (lg_sl ([.int (nI (x))])).length) Slot.unset).toArray = ls at hl ⊢
  have hl : lv_has ls 1 [(0, .int (nI (x)))] := hl
  refine lv_iload_n hx hb dJ6_bitCount_0f7a4_0 rfl (lv_at hl 0 rfl) ?_
  refine lv_iload_n hx hb dJ6_bitCount_0f7a4_1 rfl (lv_at hl 0 rfl) ?_
  refine lv_iconst (v := nI (1)) hx hb dJ6_bitCount_0f7a4_2 (by decide +kernel) ?_
  refine lv_iushr (v := nI (x / 2)) hx hb dJ6_bitCount_0f7a4_3 (pk_ushrN (n := x) (by omega) _ 1 (by decide +kernel)) ?_
  refine lv_ldcw (v := nI 1431655765) hx hb hown (hts (.constant RJ6 265 (1431655765)) (by decide +kernel)) dJ6_bitCount_0f7a4_4 ?_
  refine lv_iand hx hb dJ6_bitCount_0f7a4_7 ?_
  rw [nI_and]
  refine lv_isub hx hb dJ6_bitCount_0f7a4_8 ?_
  have hle : (x / 2) &&& 1431655765 ≤ x := Nat.le_trans Nat.and_le_left (by omega)
  rw [pk_sub (a := x) (b := (x / 2) &&& 1431655765) (by omega)]
  refine lv_istore_n (lv' := [(0, .int (nI (x - ((x / 2) &&& 1431655765))))]) hx hb dJ6_bitCount_0f7a4_9 rfl hl (by decide) rfl (fun ls hl => ?_)
  obtain ⟨a, e_a⟩ : ∃ z, z = x - ((x / 2) &&& 1431655765) := ⟨_, rfl⟩
  rw [← e_a] at hl
  have b_a : a ≤ 65535 := by omega
  refine lv_iload_n hx hb dJ6_bitCount_0f7a4_10 rfl (lv_at hl 0 rfl) ?_
  refine lv_ldcw (v := nI 858993459) hx hb hown (hts (.constant RJ6 266 (858993459)) (by decide +kernel)) dJ6_bitCount_0f7a4_11 ?_
  refine lv_iand hx hb dJ6_bitCount_0f7a4_14 ?_
  rw [nI_and]
  refine lv_iload_n hx hb dJ6_bitCount_0f7a4_15 rfl (lv_at hl 0 rfl) ?_
  refine lv_iconst (v := nI (2)) hx hb dJ6_bitCount_0f7a4_16 (by decide +kernel) ?_
  refine lv_iushr (v := nI (a / 4)) hx hb dJ6_bitCount_0f7a4_17 (pk_ushrN (n := a) (by omega) _ 2 (by decide +kernel)) ?_
  refine lv_ldcw (v := nI 858993459) hx hb hown (hts (.constant RJ6 266 (858993459)) (by decide +kernel)) dJ6_bitCount_0f7a4_18 ?_
  refine lv_iand hx hb dJ6_bitCount_0f7a4_21 ?_
  rw [nI_and]
  refine lv_iadd hx hb dJ6_bitCount_0f7a4_22 ?_
  rw [nI_add]
  refine lv_istore_n (lv' := [(0, .int (nI ((a &&& 858993459) + ((a / 4) &&& 858993459))))]) hx hb dJ6_bitCount_0f7a4_23 rfl hl (by decide) rfl (fun ls hl => ?_)
  obtain ⟨b, e_b⟩ : ∃ z, z = (a &&& 858993459) + ((a / 4) &&& 858993459) := ⟨_, rfl⟩
  rw [← e_b] at hl
  have b_b : b ≤ 131072 := by have h1 := Nat.and_le_left (n := a) (m := 858993459); have h2 := Nat.and_le_left (n := a / 4) (m := 858993459); omega
  refine lv_iload_n hx hb dJ6_bitCount_0f7a4_24 rfl (lv_at hl 0 rfl) ?_
  refine lv_iload_n hx hb dJ6_bitCount_0f7a4_25 rfl (lv_at hl 0 rfl) ?_
  refine lv_iconst (v := nI (4)) hx hb dJ6_bitCount_0f7a4_26 (by decide +kernel) ?_
  refine lv_iushr (v := nI (b / 16)) hx hb dJ6_bitCount_0f7a4_27 (pk_ushrN (n := b) (by omega) _ 4 (by decide +kernel)) ?_
  refine lv_iadd hx hb dJ6_bitCount_0f7a4_28 ?_
  rw [nI_add]
  refine lv_ldcw (v := nI 252645135) hx hb hown (hts (.constant RJ6 267 (252645135)) (by decide +kernel)) dJ6_bitCount_0f7a4_29 ?_
  refine lv_iand hx hb dJ6_bitCount_0f7a4_32 ?_
  rw [nI_and]
  refine lv_istore_n (lv' := [(0, .int (nI ((b + (b / 16)) &&& 252645135)))]) hx hb dJ6_bitCount_0f7a4_33 rfl hl (by decide) rfl (fun ls hl => ?_)
  obtain ⟨c, e_c⟩ : ∃ z, z = (b + (b / 16)) &&& 252645135 := ⟨_, rfl⟩
  rw [← e_c] at hl
  have b_c : c ≤ 262144 := by have h1 := Nat.and_le_left (n := b + b / 16) (m := 252645135); omega
  refine lv_iload_n hx hb dJ6_bitCount_0f7a4_34 rfl (lv_at hl 0 rfl) ?_
  refine lv_iload_n hx hb dJ6_bitCount_0f7a4_35 rfl (lv_at hl 0 rfl) ?_
  refine lv_bipush (v := nI (8)) hx hb dJ6_bitCount_0f7a4_36 (by decide +kernel) ?_
  refine lv_iushr (v := nI (c / 256)) hx hb dJ6_bitCount_0f7a4_38 (pk_ushrN (n := c) (by omega) _ 8 (by decide +kernel)) ?_
  refine lv_iadd hx hb dJ6_bitCount_0f7a4_39 ?_
  rw [nI_add]
  refine lv_istore_n (lv' := [(0, .int (nI (c + (c / 256))))]) hx hb dJ6_bitCount_0f7a4_40 rfl hl (by decide) rfl (fun ls hl => ?_)
  obtain ⟨d, e_d⟩ : ∃ z, z = c + (c / 256) := ⟨_, rfl⟩
  rw [← e_d] at hl
  have b_d : d ≤ 524288 := by omega
  refine lv_iload_n hx hb dJ6_bitCount_0f7a4_41 rfl (lv_at hl 0 rfl) ?_
  refine lv_iload_n hx hb dJ6_bitCount_0f7a4_42 rfl (lv_at hl 0 rfl) ?_
  refine lv_bipush (v := nI (16)) hx hb dJ6_bitCount_0f7a4_43 (by decide +kernel) ?_
  refine lv_iushr (v := nI (d / 65536)) hx hb dJ6_bitCount_0f7a4_45 (pk_ushrN (n := d) (by omega) _ 16 (by decide +kernel)) ?_
  refine lv_iadd hx hb dJ6_bitCount_0f7a4_46 ?_
  rw [nI_add]
  refine lv_istore_n (lv' := [(0, .int (nI (d + (d / 65536))))]) hx hb dJ6_bitCount_0f7a4_47 rfl hl (by decide) rfl (fun ls hl => ?_)
  obtain ⟨e_, e_e_⟩ : ∃ z, z = d + (d / 65536) := ⟨_, rfl⟩
  rw [← e_e_] at hl
  have b_e_ : e_ ≤ 1048576 := by omega
  refine lv_iload_n hx hb dJ6_bitCount_0f7a4_48 rfl (lv_at hl 0 rfl) ?_
  refine lv_bipush (v := nI (63)) hx hb dJ6_bitCount_0f7a4_49 (by decide +kernel) ?_
  refine lv_iand hx hb dJ6_bitCount_0f7a4_51 ?_
  rw [nI_and]
  exact xe_i hx hb hr rfl hlocks hW ⟨rfl, by subst e_e_ e_d e_c e_b e_a; rfl⟩ (Nat.le_of_ble_eq_true rfl) (Nat.le_of_ble_eq_true rfl) dJ6_bitCount_0f7a4_52

set_option maxHeartbeats 4000000 in
set_option maxRecDepth 100000 in
theorem c_X3_likenessTo (l : Launch) (D : xD) (sa : Nat → Nat) (xa : xA) (G0 : xG) (σ : Sg) (τ : Tg) (hg : Gd σ) (i j : Nat) (hi : i < σ 12 0) (hj : j < σ 12 0) : xCi l yX3_likenessTo wsX3_likenessTo ({ frames := 12, cells := 0, slots := 0, locals := 300 } : Room) D sa xa (xGs G0 D xa σ τ) [.ref (xa 13 i), .ref (xa 13 j)] (fun r u => u = (xa, xGs G0 D xa σ τ) ∧ r.toInt = lk σ i j) 0 0 := by
  have hB := hg.1
  have h5 := hg.2.1.1
  have h7 := hg.2.1.2.1
  have h12 := hg.2.1.2.2.1
  have hy0 := hg.2.1.2.2.2.1
  have hy1 := hg.2.1.2.2.2.2
  have hm := hg.hm
  have hs8 := hg.hs8
  intro sz
  refine Met.ofW (cc := cX3_likenessTo) (maxL := 4) (ret := (some .int)) (by decide +kernel) rfl ?_
  intro p e s m args below meth c s₁ B hml hv
  obtain ⟨rfl, hsz, hv2⟩ := hv
  subst hsz
  have hx := B.exec
  have hb := B.bytes
  have hr := B.returns
  have hts := atoms_spec (ws := wsX3_likenessTo) B.pre
  have hown : s.vm.findClass RX3 = some m.cls := findClass_of_methodNamed B.named
  have hlocks := B.notSynchronized
  have hin3 : ∀ w ∈ wsX30, w ∈ wsX3_likenessTo := by decide +kernel
  have hW := xW.start (s := s) ⟨rfl, hv2⟩
  clear hv2
  generalize xAw xa (xGs G0 D xa σ τ) s.heap.size = A at hW ⊢
  have hl := lv_entry ([.ref (xa 13 i), .ref (xa 13 j)]) (n := 4) (Nat.le_of_ble_eq_true rfl)
  rw [lg_entry_eq]
  generalize (lg_sl ([.ref (xa 13 i), .ref (xa 13 j)]) ++ List.replicate (4 - (lg_sl ([.ref (xa 13 i), .ref (xa 13 j)])).length) Slot.unset).toArray = ls at hl ⊢
  have hl : lv_has ls 4 [(0, .ref (xa 13 i)), (1, .ref (xa 13 j))] := hl
  refine lv_aload_n hx hb dX3_likenessTo_0 rfl (lv_at hl 0 rfl) ?_
  refine x_get hx hb hts hin3 hown hW 13 i (xg_t G0 D xa σ τ (i := i) (by omega)) rfl 0 (by decide) (hts (.fieldLink RX3 17 "Restitutory$Thing" "marks" "I") (by decide +kernel)) rfl (v := .int (nI (σ 9 i))) (rfl) dX3_likenessTo_1 ?_
  have b_1 := hB 9 i
  refine lv_aload_n hx hb dX3_likenessTo_4 rfl (lv_at hl 1 rfl) ?_
  refine x_get hx hb hts hin3 hown hW 13 j (xg_t G0 D xa σ τ (i := j) (by omega)) rfl 0 (by decide) (hts (.fieldLink RX3 17 "Restitutory$Thing" "marks" "I") (by decide +kernel)) rfl (v := .int (nI (σ 9 j))) (rfl) dX3_likenessTo_5 ?_
  have b_5 := hB 9 j
  refine lv_iand hx hb dX3_likenessTo_8 ?_
  rw [nI_and]
  refine xs_i (As := [.int (nI ((σ 9 i) &&& (σ 9 j)))]) (rest := []) ⟨hx, hb, hml, hown, hts⟩ (c_J6_bitCount l D sa xa (xGs G0 D xa σ τ) ((σ 9 i) &&& (σ 9 j)) (Nat.lt_of_le_of_lt Nat.and_le_left (hB 9 i))) (va_cwS 1 hts gX3_likenessTo_J6_bitCount_0f7a4 rfl rfl rfl (by decide +kernel) ⟨Nat.le_of_ble_eq_true rfl, Nat.le_of_ble_eq_true rfl⟩) hW rfl rfl hl.1 (Nat.le_of_ble_eq_true rfl) dX3_likenessTo_9 ⟨Nat.le_of_ble_eq_true rfl, Nat.le_of_ble_eq_true rfl⟩ (fun r_9 xa1 G1 H locs hp hW => ?_)
  obtain ⟨hu, hr_9⟩ := hp
  cases hu
  rw [bc_pcn (Nat.lt_of_le_of_lt Nat.and_le_left (hB 9 i))] at hr_9
  subst hr_9
  have b_9 := pcn_le ((σ 9 i) &&& (σ 9 j)) 16
  refine lv_istore_n (lv' := [(2, .int (nI (pcn ((σ 9 i) &&& (σ 9 j)) 16))), (0, .ref (xa 13 i)), (1, .ref (xa 13 j))]) hx hb dX3_likenessTo_12 rfl hl (by decide) rfl (fun ls hl => ?_)
  have hl : lv_has ls 4 [(0, .ref (xa 13 i)), (1, .ref (xa 13 j)), (2, .int (nI (pcn ((σ 9 i) &&& (σ 9 j)) 16)))] := lv_sub hl [1, 2, 0] rfl
  refine lv_aload_n hx hb dX3_likenessTo_13 rfl (lv_at hl 0 rfl) ?_
  refine x_get hx hb hts hin3 hown hW 13 i (xg_t G0 D xa σ τ (i := i) (by omega)) rfl 0 (by decide) (hts (.fieldLink RX3 17 "Restitutory$Thing" "marks" "I") (by decide +kernel)) rfl (v := .int (nI (σ 9 i))) (rfl) dX3_likenessTo_14 ?_
  have b_14 := hB 9 i
  refine lv_aload_n hx hb dX3_likenessTo_17 rfl (lv_at hl 1 rfl) ?_
  refine x_get hx hb hts hin3 hown hW 13 j (xg_t G0 D xa σ τ (i := j) (by omega)) rfl 0 (by decide) (hts (.fieldLink RX3 17 "Restitutory$Thing" "marks" "I") (by decide +kernel)) rfl (v := .int (nI (σ 9 j))) (rfl) dX3_likenessTo_18 ?_
  have b_18 := hB 9 j
  refine lv_ixor hx hb dX3_likenessTo_21 ?_
  rw [nI_xor]
  refine xs_i (As := [.int (nI ((σ 9 i) ^^^ (σ 9 j)))]) (rest := []) ⟨hx, hb, hml, hown, hts⟩ (c_J6_bitCount l D sa xa (xGs G0 D xa σ τ) ((σ 9 i) ^^^ (σ 9 j)) (Nat.xor_lt_two_pow (n := 16) (hB 9 i) (hB 9 j))) (va_cwS 1 hts gX3_likenessTo_J6_bitCount_0f7a4 rfl rfl rfl (by decide +kernel) ⟨Nat.le_of_ble_eq_true rfl, Nat.le_of_ble_eq_true rfl⟩) hW rfl rfl hl.1 (Nat.le_of_ble_eq_true rfl) dX3_likenessTo_22 ⟨Nat.le_of_ble_eq_true rfl, Nat.le_of_ble_eq_true rfl⟩ (fun r_22 xa1 G1 H locs hp hW => ?_)
  obtain ⟨hu, hr_22⟩ := hp
  cases hu
  rw [bc_pcn (Nat.xor_lt_two_pow (n := 16) (hB 9 i) (hB 9 j))] at hr_22
  subst hr_22
  have b_22 := pcn_le ((σ 9 i) ^^^ (σ 9 j)) 16
  refine lv_istore_n (lv' := [(3, .int (nI (pcn ((σ 9 i) ^^^ (σ 9 j)) 16))), (0, .ref (xa 13 i)), (1, .ref (xa 13 j)), (2, .int (nI (pcn ((σ 9 i) &&& (σ 9 j)) 16)))]) hx hb dX3_likenessTo_25 rfl hl (by decide) rfl (fun ls hl => ?_)
  have hl : lv_has ls 4 [(0, .ref (xa 13 i)), (1, .ref (xa 13 j)), (2, .int (nI (pcn ((σ 9 i) &&& (σ 9 j)) 16))), (3, .int (nI (pcn ((σ 9 i) ^^^ (σ 9 j)) 16)))] := lv_sub hl [1, 2, 3, 0] rfl
  refine lv_bipush (v := nI (10)) hx hb dX3_likenessTo_26 (by decide +kernel) ?_
  refine lv_iload_n hx hb dX3_likenessTo_28 rfl (lv_at hl 2 rfl) ?_
  refine lv_imul hx hb dX3_likenessTo_29 ?_
  rw [pk_mul]
  refine lv_iconst (v := nI (5)) hx hb dX3_likenessTo_30 (by decide +kernel) ?_
  refine lv_iload_n hx hb dX3_likenessTo_31 rfl (lv_at hl 3 rfl) ?_
  refine lv_imul hx hb dX3_likenessTo_32 ?_
  rw [pk_mul]
  refine lv_isub hx hb dX3_likenessTo_33 ?_
  refine lv_aload_n hx hb dX3_likenessTo_34 rfl (lv_at hl 0 rfl) ?_
  refine x_get hx hb hts hin3 hown hW 13 i (xg_t G0 D xa σ τ (i := i) (by omega)) rfl 1 (by decide) (hts (.fieldLink RX3 21 "Restitutory$Thing" "size" "I") (by decide +kernel)) rfl (v := .int (nI (σ 10 i))) (rfl) dX3_likenessTo_35 ?_
  have b_35 := hB 10 i
  refine lv_aload_n hx hb dX3_likenessTo_38 rfl (lv_at hl 1 rfl) ?_
  refine x_get hx hb hts hin3 hown hW 13 j (xg_t G0 D xa σ τ (i := j) (by omega)) rfl 1 (by decide) (hts (.fieldLink RX3 21 "Restitutory$Thing" "size" "I") (by decide +kernel)) rfl (v := .int (nI (σ 10 j))) (rfl) dX3_likenessTo_39 ?_
  have b_39 := hB 10 j
  refine lv_isub hx hb dX3_likenessTo_42 ?_
  refine va_mabs hx hb (hml.trans hl.1.symm) hown (hts (.methodLink RX3 30 Lib.Math.abs.name) (by decide +kernel)) (hts (.static Lib.Math.abs.name) (by decide +kernel)) (hts (.initialized "java/lang/Math") (by decide +kernel)) (hts (.code Lib.Math.abs.name Lib.Math.abs.code 1 (some .int)) (by decide +kernel)) (Nat.le_of_ble_eq_true rfl) (Nat.le_of_ble_eq_true rfl) (Nat.le_of_ble_eq_true rfl) (Nat.le_of_ble_eq_true rfl) dX3_likenessTo_43 ?_
  refine lv_isub hx hb dX3_likenessTo_46 ?_
  have q1 := (hg.2.2.2.2.1 i hi).1
  have q2 := (hg.2.2.2.2.1 j hj).1
  have e1 : (nI (10 * pcn (σ 9 i &&& σ 9 j) 16) - nI (5 * pcn (σ 9 i ^^^ σ 9 j) 16)).toInt = 10 * (pcn (σ 9 i &&& σ 9 j) 16 : Int) - 5 * (pcn (σ 9 i ^^^ σ 9 j) 16 : Int) := by rw [pk_sub_toInt (by omega) (by omega)]; omega
  have e2 : (nI (σ 10 i) - nI (σ 10 j)).toInt = (σ 10 i : Int) - σ 10 j := pk_sub_toInt (by omega) (by omega)
  have e3 : (if 0 ≤ nI (σ 10 i) - nI (σ 10 j) then nI (σ 10 i) - nI (σ 10 j) else 0 - (nI (σ 10 i) - nI (σ 10 j))).toInt = (if (σ 10 i : Int) - σ 10 j < 0 then -((σ 10 i : Int) - σ 10 j) else (σ 10 i : Int) - σ 10 j) := by
    by_cases hz : 0 ≤ nI (σ 10 i) - nI (σ 10 j)
    · rw [if_pos hz, e2]
      have h1 := Int32.le_iff_toInt_le.mp hz
      rw [x_t0, e2] at h1
      rw [if_neg (by omega)]
    · rw [if_neg hz, x_subI (by rw [x_t0, e2]; omega) (by rw [x_t0, e2]; omega), x_t0, e2]
      have h1 : ¬ ((0 : Int32).toInt ≤ (nI (σ 10 i) - nI (σ 10 j)).toInt) := fun h => hz (Int32.le_iff_toInt_le.mpr h)
      rw [x_t0, e2] at h1
      rw [if_pos (by omega)]
      omega
  have e4 : -1000 ≤ (if (σ 10 i : Int) - σ 10 j < 0 then -((σ 10 i : Int) - σ 10 j) else (σ 10 i : Int) - σ 10 j) ∧ (if (σ 10 i : Int) - σ 10 j < 0 then -((σ 10 i : Int) - σ 10 j) else (σ 10 i : Int) - σ 10 j) ≤ 1000 := by split <;> omega
  exact xe_i hx hb hr rfl hlocks hW ⟨rfl, by show Int32.toInt _ = _; rw [x_subI (by rw [e1, e3]; omega) (by rw [e1, e3]; omega), e1, e3]; rfl⟩ (Nat.le_of_ble_eq_true rfl) (Nat.le_of_ble_eq_true rfl) dX3_likenessTo_47

set_option maxHeartbeats 4000000 in
set_option maxRecDepth 100000 in
theorem c_X3_lastParty (l : Launch) (D : xD) (sa : Nat → Nat) (xa : xA) (G0 : xG) (σ : Sg) (τ : Tg) (hg : Gd σ) (hL : LL σ τ) (i : Nat) (hi : i < σ 12 0) : xCq l yX3_lastParty wsX3_lastParty ({ frames := 10, cells := 0, slots := 0, locals := 200 } : Room) D sa xa (xGs G0 D xa σ τ) [.ref (xa 13 i)] (fun r u => u = (xa, xGs G0 D xa σ τ) ∧ r = (hold σ i).map (xa 10)) 0 0 := by
  have hB := hg.1
  have h5 := hg.2.1.1
  have h7 := hg.2.1.2.1
  have h12 := hg.2.1.2.2.1
  have hy0 := hg.2.1.2.2.2.1
  have hy1 := hg.2.1.2.2.2.2
  have hm := hg.hm
  have hs8 := hg.hs8
  intro sz
  refine Met.ofW (cc := cX3_lastParty) (maxL := 1) (ret := (some (.object "Restitutory$Person"))) (by decide +kernel) rfl ?_
  intro p e s m args below meth c s₁ B hml hv
  obtain ⟨rfl, hsz, hv2⟩ := hv
  subst hsz
  have hx := B.exec
  have hb := B.bytes
  have hr := B.returns
  have hts := atoms_spec (ws := wsX3_lastParty) B.pre
  have hown : s.vm.findClass RX3 = some m.cls := findClass_of_methodNamed B.named
  have hlocks := B.notSynchronized
  have hin3 : ∀ w ∈ wsX30, w ∈ wsX3_lastParty := by decide +kernel
  have hin2 : ∀ w ∈ wsX20, w ∈ wsX3_lastParty := by decide +kernel
  have hW := xW.start (s := s) ⟨rfl, hv2⟩
  clear hv2
  generalize xAw xa (xGs G0 D xa σ τ) s.heap.size = A at hW ⊢
  have hl := lv_entry ([.ref (xa 13 i)]) (n := 1) (Nat.le_of_ble_eq_true rfl)
  rw [lg_entry_eq]
  generalize (lg_sl ([.ref (xa 13 i)]) ++ List.replicate (1 - (lg_sl ([.ref (xa 13 i)])).length) Slot.unset).toArray = ls at hl ⊢
  have hl : lv_has ls 1 [(0, .ref (xa 13 i))] := hl
  have hli := hL i hi
  have h8 := hs8 i
  by_cases hn : σ 11 i = 0
  ·
    have hτ := hli.2.1
    rw [if_pos hn] at hτ
    refine lv_aload_n hx hb dX3_lastParty_0 rfl (lv_at hl 0 rfl) ?_
    refine x_get hx hb hts hin3 hown hW 13 i (xg_t G0 D xa σ τ (i := i) (by omega)) rfl 5 (by decide) (hts (.fieldLink RX3 35 "Restitutory$Thing" "last" "LRestitutory$Station;") (by decide +kernel)) rfl (v := .null) (by show some (va_rf ((τ 2 _).map (xa 15))) = _; rw [hτ]; rfl) dX3_lastParty_1 ?_
    refine lv_ifnonnullN hx hb dX3_lastParty_4 ?_
    refine lv_null hx hb dX3_lastParty_7 ?_
    refine lv_goto (tgt := 18) hx hb dX3_lastParty_8 (by decide) ?_
    exact xe_q (r := none) hx hb hr hlocks hW ⟨rfl, by unfold hold; rw [if_pos hn]; rfl⟩ (Nat.le_refl _) (Nat.le_refl _) dX3_lastParty_18
  ·
    have hτ := hli.2.1
    rw [if_neg hn] at hτ
    have sl := (hg.2.2.2.2.1 i hi).2.2 _ (ordr_lt (σ := σ) (i := i) (q := σ 11 i - 1) (by omega))
    refine lv_aload_n hx hb dX3_lastParty_0 rfl (lv_at hl 0 rfl) ?_
    refine x_get hx hb hts hin3 hown hW 13 i (xg_t G0 D xa σ τ (i := i) (by omega)) rfl 5 (by decide) (hts (.fieldLink RX3 35 "Restitutory$Thing" "last" "LRestitutory$Station;") (by decide +kernel)) rfl (v := .ref (xa 15 (8 * i + ordr σ i (σ 11 i - 1)))) (by show some (va_rf ((τ 2 _).map (xa 15))) = _; rw [hτ]; rfl) dX3_lastParty_1 ?_
    refine lv_ifnonnull (tgt := 11) hx hb dX3_lastParty_4 (by decide) ?_
    refine lv_aload_n hx hb dX3_lastParty_11 rfl (lv_at hl 0 rfl) ?_
    refine x_get hx hb hts hin3 hown hW 13 i (xg_t G0 D xa σ τ (i := i) (by omega)) rfl 5 (by decide) (hts (.fieldLink RX3 35 "Restitutory$Thing" "last" "LRestitutory$Station;") (by decide +kernel)) rfl (v := .ref (xa 15 (8 * i + ordr σ i (σ 11 i - 1)))) (by show some (va_rf ((τ 2 _).map (xa 15))) = _; rw [hτ]; rfl) dX3_lastParty_12 ?_
    refine x_get hx hb hts hin2 hown hW 15 (8 * i + ordr σ i (σ 11 i - 1)) (xg_s G0 D xa σ τ (i := 8 * i + ordr σ i (σ 11 i - 1)) (lvS_of (by omega) (ordr_lt (by omega)) (hs8 _))) rfl 1 (by decide) (hts (.fieldLink RX3 39 "Restitutory$Station" "party" "LRestitutory$Person;") (by decide +kernel)) rfl (v := .ref (xa 10 (σ 13 (8 * i + ordr σ i (σ 11 i - 1))))) (rfl) dX3_lastParty_15 ?_
    exact xe_q (r := some (xa 10 (σ 13 (8 * i + ordr σ i (σ 11 i - 1))))) hx hb hr hlocks hW ⟨rfl, by unfold hold; rw [if_neg hn]; rfl⟩ (Nat.le_refl _) (Nat.le_refl _) dX3_lastParty_18

set_option maxHeartbeats 4000000 in
set_option maxRecDepth 100000 in
theorem c_X4_titleFromFirst (l : Launch) (D : xD) (sa : Nat → Nat) (xa : xA) (G0 : xG) (σ : Sg) (τ : Tg) (hg : Gd σ) (hL : LL σ τ) (i : Nat) (hi : i < σ 12 0) : xCq l yX4_titleFromFirst wsX4_titleFromFirst ({ frames := 18, cells := 0, slots := 0, locals := 600 } : Room) D sa xa (xGs G0 D xa σ τ) [.ref (xa 0 0), .ref (xa 13 i)] (fun r u => u = (xa, xGs G0 D xa σ τ) ∧ ((σ 11 i = 0 ∧ r = none) ∨ (0 < σ 11 i ∧ ∃ t, ttl σ i (ordr σ i) (σ 11 i) (σ 11 i - 1) t ∧ r = some (xa 10 t)))) 0 0 := by
  have hB := hg.1
  have h5 := hg.2.1.1
  have h7 := hg.2.1.2.1
  have h12 := hg.2.1.2.2.1
  have hy0 := hg.2.1.2.2.2.1
  have hy1 := hg.2.1.2.2.2.2
  have hm := hg.hm
  have hs8 := hg.hs8
  intro sz
  refine Met.ofW (cc := cX4_titleFromFirst) (maxL := 4) (ret := (some (.object "Restitutory$Person"))) (by decide +kernel) rfl ?_
  intro p e s m args below meth c s₁ B hml hv
  obtain ⟨rfl, hsz, hv2⟩ := hv
  subst hsz
  have hx := B.exec
  have hb := B.bytes
  have hr := B.returns
  have hts := atoms_spec (ws := wsX4_titleFromFirst) B.pre
  have hown : s.vm.findClass RX4 = some m.cls := findClass_of_methodNamed B.named
  have hlocks := B.notSynchronized
  have hin3 : ∀ w ∈ wsX30, w ∈ wsX4_titleFromFirst := by decide +kernel
  have hin2 : ∀ w ∈ wsX20, w ∈ wsX4_titleFromFirst := by decide +kernel
  have hin4 : ∀ w ∈ wsX40, w ∈ wsX4_titleFromFirst := by decide +kernel
  have hin1 : ∀ w ∈ wsX10, w ∈ wsX4_titleFromFirst := by decide +kernel
  have hin0 : ∀ w ∈ wsX00, w ∈ wsX4_titleFromFirst := by decide +kernel
  have hW := xW.start (s := s) ⟨rfl, hv2⟩
  clear hv2
  generalize xAw xa (xGs G0 D xa σ τ) s.heap.size = A at hW ⊢
  have hl := lv_entry ([.ref (xa 0 0), .ref (xa 13 i)]) (n := 4) (Nat.le_of_ble_eq_true rfl)
  rw [lg_entry_eq]
  generalize (lg_sl ([.ref (xa 0 0), .ref (xa 13 i)]) ++ List.replicate (4 - (lg_sl ([.ref (xa 0 0), .ref (xa 13 i)])).length) Slot.unset).toArray = ls at hl ⊢
  have hl : lv_has ls 4 [(0, .ref (xa 0 0)), (1, .ref (xa 13 i))] := hl
  have hli := hL i hi
  have h8 := hs8 i
  have hst := fun k hk => (hg.2.2.2.2.1 i hi).2.2 k hk
  by_cases hn : σ 11 i = 0
  ·
    have hτ := hli.1
    rw [if_pos hn] at hτ
    refine lv_aload_n hx hb dX4_titleFromFirst_0 rfl (lv_at hl 1 rfl) ?_
    refine x_get hx hb hts hin3 hown hW 13 i (xg_t G0 D xa σ τ (i := i) (by omega)) rfl 4 (by decide) (hts (.fieldLink RX4 162 "Restitutory$Thing" "first" "LRestitutory$Station;") (by decide +kernel)) rfl (v := .null) (by show some (va_rf ((τ 1 _).map (xa 15))) = _; rw [hτ]; rfl) dX4_titleFromFirst_1 ?_
    refine lv_ifnonnullN hx hb dX4_titleFromFirst_4 ?_
    refine lv_null hx hb dX4_titleFromFirst_7 ?_
    exact xe_q (r := none) hx hb hr hlocks hW ⟨rfl, Or.inl ⟨hn, rfl⟩⟩ (Nat.le_refl _) (Nat.le_refl _) dX4_titleFromFirst_8
  ·
    have hτ := hli.1
    rw [if_neg hn] at hτ
    have s0 := hst _ (ordr_lt (σ := σ) (i := i) (q := 0) (by omega))
    have hτ4 := (hli.2.2 0 (by omega)).2
    refine lv_aload_n hx hb dX4_titleFromFirst_0 rfl (lv_at hl 1 rfl) ?_
    refine x_get hx hb hts hin3 hown hW 13 i (xg_t G0 D xa σ τ (i := i) (by omega)) rfl 4 (by decide) (hts (.fieldLink RX4 162 "Restitutory$Thing" "first" "LRestitutory$Station;") (by decide +kernel)) rfl (v := .ref (xa 15 (8 * i + ordr σ i 0))) (by show some (va_rf ((τ 1 _).map (xa 15))) = _; rw [hτ]; rfl) dX4_titleFromFirst_1 ?_
    refine lv_ifnonnull (tgt := 9) hx hb dX4_titleFromFirst_4 (by decide) ?_
    refine lv_aload_n hx hb dX4_titleFromFirst_9 rfl (lv_at hl 1 rfl) ?_
    refine x_get hx hb hts hin3 hown hW 13 i (xg_t G0 D xa σ τ (i := i) (by omega)) rfl 4 (by decide) (hts (.fieldLink RX4 162 "Restitutory$Thing" "first" "LRestitutory$Station;") (by decide +kernel)) rfl (v := .ref (xa 15 (8 * i + ordr σ i 0))) (by show some (va_rf ((τ 1 _).map (xa 15))) = _; rw [hτ]; rfl) dX4_titleFromFirst_10 ?_
    refine x_get hx hb hts hin2 hown hW 15 (8 * i + ordr σ i 0) (xg_s G0 D xa σ τ (i := 8 * i + ordr σ i 0) (lvS_of (by omega) (ordr_lt (by omega)) (hs8 _))) rfl 1 (by decide) (hts (.fieldLink RX4 213 "Restitutory$Station" "party" "LRestitutory$Person;") (by decide +kernel)) rfl (v := .ref (xa 10 (σ 13 (8 * i + ordr σ i 0)))) (rfl) dX4_titleFromFirst_13 ?_
    refine lv_astore_n (lv' := [(2, .ref (xa 10 (σ 13 (8 * i + ordr σ i 0)))), (0, .ref (xa 0 0)), (1, .ref (xa 13 i))]) hx hb dX4_titleFromFirst_16 rfl hl (by decide) rfl (fun ls hl => ?_)
    have hl : lv_has ls 4 [(0, .ref (xa 0 0)), (1, .ref (xa 13 i)), (2, .ref (xa 10 (σ 13 (8 * i + ordr σ i 0))))] := lv_sub hl [1, 2, 0] rfl
    refine lv_aload_n hx hb dX4_titleFromFirst_17 rfl (lv_at hl 1 rfl) ?_
    refine x_get hx hb hts hin3 hown hW 13 i (xg_t G0 D xa σ τ (i := i) (by omega)) rfl 4 (by decide) (hts (.fieldLink RX4 162 "Restitutory$Thing" "first" "LRestitutory$Station;") (by decide +kernel)) rfl (v := .ref (xa 15 (8 * i + ordr σ i 0))) (by show some (va_rf ((τ 1 _).map (xa 15))) = _; rw [hτ]; rfl) dX4_titleFromFirst_18 ?_
    refine x_get hx hb hts hin2 hown hW 15 (8 * i + ordr σ i 0) (xg_s G0 D xa σ τ (i := 8 * i + ordr σ i 0) (lvS_of (by omega) (ordr_lt (by omega)) (hs8 _))) rfl 8 (by decide) (hts (.fieldLink RX4 166 "Restitutory$Station" "next" "LRestitutory$Station;") (by decide +kernel)) rfl (v := va_rf ((if 0 + 1 < σ 11 i then some (8 * i + ordr σ i (0 + 1)) else none).map (xa 15))) (by show some (va_rf ((τ 4 _).map (xa 15))) = _; rw [hτ4]) dX4_titleFromFirst_21 ?_
    refine x_astore_n (lv' := [(3, va_rf ((if 0 + 1 < σ 11 i then some (8 * i + ordr σ i (0 + 1)) else none).map (xa 15))), (0, .ref (xa 0 0)), (1, .ref (xa 13 i)), (2, .ref (xa 10 (σ 13 (8 * i + ordr σ i 0))))]) hx hb dX4_titleFromFirst_24 rfl hl (by decide) rfl (fun ls hl => ?_)
    have hl : lv_has ls 4 [(0, .ref (xa 0 0)), (1, .ref (xa 13 i)), (2, .ref (xa 10 (σ 13 (8 * i + ordr σ i 0)))), (3, va_rf ((if 0 + 1 < σ 11 i then some (8 * i + ordr σ i (0 + 1)) else none).map (xa 15)))] := lv_sub hl [1, 2, 3, 0] rfl
    refine x_loop (X := Nat × Nat) (I := fun n xv H locs ls => n = σ 11 i - xv.2 ∧ xW D sa A s xa (xGs G0 D xa σ τ) H locs ∧ lv_has ls 4 [(0, .ref (xa 0 0)), (1, .ref (xa 13 i)), (2, .ref (xa 10 (xv.1))), (3, va_rf ((if xv.2 < σ 11 i then some (8 * i + ordr σ i (xv.2)) else none).map (xa 15)))] ∧ (ttl σ i (ordr σ i) (σ 11 i) (xv.2 - 1) xv.1) ∧ (1 ≤ xv.2) ∧ (xv.2 ≤ σ 11 i) ∧ (xv.1 < σ 5 0)) (hd := 25) ?_ (n := _) (x := (σ 13 (8 * i + ordr σ i 0), 1)) ⟨rfl, hW, hl, rfl, by (try dsimp only); omega, by (try dsimp only); omega, s0.1⟩
    rintro n ⟨t, q⟩ H locs ls ⟨hn, hW, hl, ht, hq1, hq2, htp⟩ ih25
    try dsimp only at hn hW hl ht hq1 hq2 htp
    by_cases hqn : q < σ 11 i
    ·
      rw [if_pos hqn] at hl
      have hl : lv_has ls 4 [(0, .ref (xa 0 0)), (1, .ref (xa 13 i)), (2, .ref (xa 10 t)), (3, .ref (xa 15 (8 * i + ordr σ i q)))] := hl
      have sq := hst _ (ordr_lt (σ := σ) (i := i) (q := q) (by omega))
      have hτ4 := (hli.2.2 q hqn).2
      refine lv_aload_n hx hb dX4_titleFromFirst_25 rfl (lv_at hl 3 rfl) ?_
      refine lv_ifnull hx hb dX4_titleFromFirst_26 ?_
      refine lv_aload_n hx hb dX4_titleFromFirst_29 rfl (lv_at hl 0 rfl) ?_
      refine lv_aload_n hx hb dX4_titleFromFirst_30 rfl (lv_at hl 3 rfl) ?_
      refine lv_aload_n hx hb dX4_titleFromFirst_31 rfl (lv_at hl 2 rfl) ?_
      refine xv_i (k := 0) (i := 0) (As := [.ref (xa 15 (8 * i + ordr σ i q)), .ref (xa 10 t)]) (rest := []) ⟨hx, hb, hml, hown, hts⟩ (c_X4_bringsTitle l D sa xa G0 σ τ hg hL i q hi hqn (by omega) t htp) (cwV 2 hts gX4_titleFromFirst_X4_bringsTitle rfl rfl rfl (by decide +kernel) ⟨Nat.le_of_ble_eq_true rfl, Nat.le_of_ble_eq_true rfl⟩) hW (xg_x G0 D xa σ τ) rfl rfl rfl rfl hl.1 (Nat.le_of_ble_eq_true rfl) dX4_titleFromFirst_32 ⟨Nat.le_of_ble_eq_true rfl, Nat.le_of_ble_eq_true rfl⟩ (fun r_32 xa1 G1 H locs hp hW => ?_)
      obtain ⟨hu, hr_32⟩ := hp
      cases hu
      refine lv_if_eq (tgt := 43) hx hb dX4_titleFromFirst_35 (by decide) (fun c_35 => ?_) (fun c_35 => ?_)
      · -- eq taken
        have c_35 := hr_32.f c_35
        refine lv_aload_n hx hb dX4_titleFromFirst_43 rfl (lv_at hl 3 rfl) ?_
        refine x_get hx hb hts hin2 hown hW 15 (8 * i + ordr σ i q) (xg_s G0 D xa σ τ (i := 8 * i + ordr σ i q) (lvS_of (by omega) (ordr_lt (by omega)) (hs8 _))) rfl 8 (by decide) (hts (.fieldLink RX4 166 "Restitutory$Station" "next" "LRestitutory$Station;") (by decide +kernel)) rfl (v := va_rf ((if q + 1 < σ 11 i then some (8 * i + ordr σ i (q + 1)) else none).map (xa 15))) (by show some (va_rf ((τ 4 _).map (xa 15))) = _; rw [hτ4]) dX4_titleFromFirst_44 ?_
        refine x_astore_n (lv' := [(3, va_rf ((if q + 1 < σ 11 i then some (8 * i + ordr σ i (q + 1)) else none).map (xa 15))), (0, .ref (xa 0 0)), (1, .ref (xa 13 i)), (2, .ref (xa 10 t))]) hx hb dX4_titleFromFirst_47 rfl hl (by decide) rfl (fun ls hl => ?_)
        have hl : lv_has ls 4 [(0, .ref (xa 0 0)), (1, .ref (xa 13 i)), (2, .ref (xa 10 t)), (3, va_rf ((if q + 1 < σ 11 i then some (8 * i + ordr σ i (q + 1)) else none).map (xa 15)))] := lv_sub hl [1, 2, 3, 0] rfl
        refine lv_goto (tgt := 25) hx hb dX4_titleFromFirst_48 (by decide) ?_
        have hnx : ttl σ i (ordr σ i) (σ 11 i) (q + 1 - 1) (t) := by
          obtain ⟨q0, rfl⟩ : ∃ q0, q = q0 + 1 := ⟨q - 1, by omega⟩
          exact ⟨t, ht, Or.inr ⟨c_35, rfl⟩⟩
        exact ih25 (σ 11 i - (q + 1)) (t, q + 1) _ _ _ (by omega) ⟨rfl, hW, hl, hnx, by (try dsimp only); omega, by (try dsimp only); omega, htp⟩
      · -- eq not
        have c_35 := hr_32.t c_35
        refine lv_aload_n hx hb dX4_titleFromFirst_38 rfl (lv_at hl 3 rfl) ?_
        refine x_get hx hb hts hin2 hown hW 15 (8 * i + ordr σ i q) (xg_s G0 D xa σ τ (i := 8 * i + ordr σ i q) (lvS_of (by omega) (ordr_lt (by omega)) (hs8 _))) rfl 1 (by decide) (hts (.fieldLink RX4 213 "Restitutory$Station" "party" "LRestitutory$Person;") (by decide +kernel)) rfl (v := .ref (xa 10 (σ 13 (8 * i + ordr σ i q)))) (rfl) dX4_titleFromFirst_39 ?_
        refine lv_astore_n (lv' := [(2, .ref (xa 10 (σ 13 (8 * i + ordr σ i q)))), (0, .ref (xa 0 0)), (1, .ref (xa 13 i)), (3, .ref (xa 15 (8 * i + ordr σ i q)))]) hx hb dX4_titleFromFirst_42 rfl hl (by decide) rfl (fun ls hl => ?_)
        have hl : lv_has ls 4 [(0, .ref (xa 0 0)), (1, .ref (xa 13 i)), (2, .ref (xa 10 (σ 13 (8 * i + ordr σ i q)))), (3, .ref (xa 15 (8 * i + ordr σ i q)))] := lv_sub hl [1, 2, 0, 3] rfl
        refine lv_aload_n hx hb dX4_titleFromFirst_43 rfl (lv_at hl 3 rfl) ?_
        refine x_get hx hb hts hin2 hown hW 15 (8 * i + ordr σ i q) (xg_s G0 D xa σ τ (i := 8 * i + ordr σ i q) (lvS_of (by omega) (ordr_lt (by omega)) (hs8 _))) rfl 8 (by decide) (hts (.fieldLink RX4 166 "Restitutory$Station" "next" "LRestitutory$Station;") (by decide +kernel)) rfl (v := va_rf ((if q + 1 < σ 11 i then some (8 * i + ordr σ i (q + 1)) else none).map (xa 15))) (by show some (va_rf ((τ 4 _).map (xa 15))) = _; rw [hτ4]) dX4_titleFromFirst_44 ?_
        refine x_astore_n (lv' := [(3, va_rf ((if q + 1 < σ 11 i then some (8 * i + ordr σ i (q + 1)) else none).map (xa 15))), (0, .ref (xa 0 0)), (1, .ref (xa 13 i)), (2, .ref (xa 10 (σ 13 (8 * i + ordr σ i q))))]) hx hb dX4_titleFromFirst_47 rfl hl (by decide) rfl (fun ls hl => ?_)
        have hl : lv_has ls 4 [(0, .ref (xa 0 0)), (1, .ref (xa 13 i)), (2, .ref (xa 10 (σ 13 (8 * i + ordr σ i q)))), (3, va_rf ((if q + 1 < σ 11 i then some (8 * i + ordr σ i (q + 1)) else none).map (xa 15)))] := lv_sub hl [1, 2, 3, 0] rfl
        refine lv_goto (tgt := 25) hx hb dX4_titleFromFirst_48 (by decide) ?_
        have hnx : ttl σ i (ordr σ i) (σ 11 i) (q + 1 - 1) (σ 13 (8 * i + ordr σ i q)) := by
          obtain ⟨q0, rfl⟩ : ∃ q0, q = q0 + 1 := ⟨q - 1, by omega⟩
          exact ⟨t, ht, Or.inl ⟨c_35, rfl⟩⟩
        exact ih25 (σ 11 i - (q + 1)) (σ 13 (8 * i + ordr σ i q), q + 1) _ _ _ (by omega) ⟨rfl, hW, hl, hnx, by (try dsimp only); omega, by (try dsimp only); omega, sq.1⟩
    ·
      rw [if_neg hqn] at hl
      have hl : lv_has ls 4 [(0, .ref (xa 0 0)), (1, .ref (xa 13 i)), (2, .ref (xa 10 t)), (3, .null)] := hl
      refine lv_aload_nN hx hb dX4_titleFromFirst_25 rfl (lv_at hl 3 rfl) ?_
      refine lv_ifnullN (tgt := 51) hx hb dX4_titleFromFirst_26 (by decide) ?_
      refine lv_aload_n hx hb dX4_titleFromFirst_51 rfl (lv_at hl 2 rfl) ?_
      exact xe_q (r := some (xa 10 t)) hx hb hr hlocks hW ⟨rfl, Or.inr ⟨by omega, t, by rw [show σ 11 i - 1 = q - 1 by omega]; exact ht, rfl⟩⟩ (Nat.le_refl _) (Nat.le_refl _) dX4_titleFromFirst_52
