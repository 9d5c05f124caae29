/-! THE LAW'S LOOP -/
theorem l_and31 (x : Int32) : ∃ t, t < 32 ∧ x &&& nI 31 = nI t := by
  refine ⟨x.toBitVec.toNat &&& 31, Nat.lt_of_le_of_lt Nat.and_le_right (by omega), ?_⟩
  apply Int32.toBitVec_inj.mp
  rw [Int32.toBitVec_and]
  apply BitVec.eq_of_toNat_eq
  rw [BitVec.toNat_and]
  show x.toBitVec.toNat &&& 31 = (BitVec.ofNat 32 (x.toBitVec.toNat &&& 31)).toNat
  rw [BitVec.toNat_ofNat, Nat.mod_eq_of_lt (Nat.lt_of_le_of_lt Nat.and_le_right (by omega))]
set_option maxHeartbeats 4000000 in
set_option maxRecDepth 100000 in
theorem law_loop (l : Launch) (hst0 : l.stackTraces = false) {p : Program} {e : Env} {s : State} {m : MethodId} {below : List Frame} {meth : Method} {c : Code} {D : xD} {sa : Nat → Nat} {A : Nat → Prop} {b L : Nat} {xs : Nat → Int32} (hx : p.tables.exec = Jvm.exec) (hb : c.code = cL_law) (hr : meth.sig.returnType = ret) (hlocks : meth.locks = false) (hml : c.maxLocals = 7) (hown : s.vm.findClass RL = some m.cls) (hts : ∀ w ∈ wsL_law, w.before #[Value.ref b] s = true) (hX : va_X b L xs s s.heap) (hbl : b < s.heap.size) (hAA : ∀ q, A q → s.heap.size ≤ q) (hLL : L ≤ 3072) :
    ∀ (n j : Nat) (xa : xA) (σ : Sg) (τ : Tg) (ρ : Nat → Nat) (la : Nat) (f : Nat → Int64) (H : Heap) (locs : List Loc) (ls : Array Slot), L - 6 * j < n → j ≤ 512 → xW D sa A s xa (lG D xa σ τ ρ la f) H locs → Gd σ → LL σ τ → TE σ τ → lv_has ls 7 [(0, .ref (b)), (1, .ref (xa 0 0)), (2, .ref (xa 20 0)), (3, .ref (xa 30 0)), (4, .int (nI (6 * j)))] → W p l e room_1 s m #[Value.ref b] below meth c H locs (23 + 6 * j) (860 + 39 * j) (lw_Z below #[Value.ref b] s) (F0 m 23 ls []) := by
  have hbA : ¬ A b := fun h => by have := hAA b h; omega
  intro n
  induction n with
  | zero => intro j xa σ τ ρ la f H locs ls h; omega
  | succ n ih =>
    intro j xa σ τ ρ la f H locs ls hn hj hW hg hLl hT hl
    have kk0 : ∀ (xa1 : xA) (σ1 : Sg) (τ1 : Tg) (ρ1 : Nat → Nat) (la1 : Nat) (f1 : Nat → Int64) (H1 : Heap) (locs1 : List Loc) (ls1 : Array Slot), 6 * j + 6 ≤ L → xW D sa A s xa1 (lG D xa1 σ1 τ1 ρ1 la1 f1) H1 locs1 → Gd σ1 → LL σ1 τ1 → TE σ1 τ1 → lv_has ls1 7 [(0, .ref (b)), (1, .ref (xa1 0 0)), (2, .ref (xa1 20 0)), (3, .ref (xa1 30 0)), (4, .int (nI (6 * j)))] → W p l e room_1 s m #[Value.ref b] below meth c H1 locs1 (23 + 6 * j + 6) (860 + 39 * j + 39) (lw_Z below #[Value.ref b] s) (F0 m 1631 ls1 []) := by
      intro xa1 σ1 τ1 ρ1 la1 f1 H1 locs1 ls1 hjL hW hg hLl hT hl
      refine lv_iinc (v := nI (6 * (j + 1))) (lv' := [(4, .int (nI (6 * (j + 1)))), (0, .ref (b)), (1, .ref (xa1 0 0)), (2, .ref (xa1 20 0)), (3, .ref (xa1 30 0))]) hx hb dL_law_1631 hl (k := 4) rfl ((x_inc (6 * j) 6 rfl).trans (by rw [show 6 * j + 6 = 6 * (j + 1) by omega])) (by decide) rfl (fun ls hl => ?_)
      have hl : lv_has ls 7 [(0, .ref (b)), (1, .ref (xa1 0 0)), (2, .ref (xa1 20 0)), (3, .ref (xa1 30 0)), (4, .int (nI (6 * (j + 1))))] := lv_sub hl [1, 2, 3, 4, 0] rfl
      refine lv_goto (tgt := 23) hx hb dL_law_1634 (by decide) ?_
      have h1 := ih (j + 1) xa1 σ1 τ1 ρ1 la1 f1 H1 locs1 ls (by omega) (by omega) hW hg hLl hT hl
      rw [show 23 + 6 * (j + 1) = 23 + 6 * j + 6 by omega, show 860 + 39 * (j + 1) = 860 + 39 * j + 39 by omega] at h1
      exact h1
    refine lv_iload hx hb dL_law_23 (lv_at hl 4 rfl) ?_
    refine lv_aload_n hx hb dL_law_25 rfl (lv_at hl 0 rfl) ?_
    refine va_slen hx hb hX hbl hbA hW.S dL_law_26 ?_
    refine lv_bipush (v := nI 6) hx hb dL_law_27 (by decide +kernel) ?_
    refine lv_isub hx hb dL_law_29 ?_
    have e6 : (Int32.ofNat L - nI 6).toInt = (L : Int) - 6 := by
      have h1 : (Int32.ofNat L).toInt = L := nI_toInt (n := L) (by omega)
      have h2 : (nI 6).toInt = 6 := nI_toInt (by omega)
      rw [x_subI (by rw [h1, h2]; omega) (by rw [h1, h2]; omega), h1, h2]
    refine lv_icmp_gt (tgt := 1637) hx hb dL_law_30 (by decide) (fun c_30 => ?_) (fun c_30 => ?_)
    · refine lv_iconst (v := 1) hx hb dL_law_1637 (by decide +kernel) ?_
      refine va_forget (fun q hq => hAA _ (hW.S.2.2 q hq)) ?_
      refine W.widen (k := 601024) (n := 7293034) (by omega) (by omega) ?_
      exact lw_ret hx hb hr hlocks dL_law_1638
    · have hjL : 6 * j + 6 ≤ L := by
        have h1 : ¬ ((Int32.ofNat L - nI 6).toInt < (nI (6 * j)).toInt) := fun h => c_30 (Int32.lt_iff_toInt_lt.mpr h)
        rw [e6, nI_toInt (n := 6 * j) (by omega)] at h1
        omega
      have kk := fun xa1 σ1 τ1 ρ1 la1 f1 H1 locs1 ls1 => kk0 xa1 σ1 τ1 ρ1 la1 f1 H1 locs1 ls1 hjL
      refine lv_aload_n hx hb dL_law_33 rfl (lv_at hl 0 rfl) ?_
      refine lv_iload hx hb dL_law_34 (lv_at hl 4 rfl) ?_
      refine l_sld hx hb hX hbl hbA hLL hW (by omega) dL_law_36 ?_
      refine lv_bipush (v := nI 31) hx hb dL_law_37 (by decide +kernel) ?_
      refine lv_iand hx hb dL_law_39 ?_
      obtain ⟨t, ht, het⟩ := l_and31 (xs (6 * j))
      rw [het]
      have hti : (nI t).toInt = t := nI_toInt (by omega)
      by_cases h20 : 20 < t
      · refine lv_tableOut (tgt := 1631) hx hb dL_law_40 (Or.inr (by rw [hti]; omega)) (by decide) ?_
        refine W.widen (k := 23 + 6 * j + 6) (n := 860 + 39 * j + 39) (by omega) (by omega) ?_
        exact kk xa σ τ ρ la f H locs ls hW hg hLl hT hl
      have hcs : t = 0 ∨ t = 1 ∨ t = 2 ∨ t = 3 ∨ t = 4 ∨ t = 5 ∨ t = 6 ∨ t = 7 ∨ t = 8 ∨ t = 9 ∨ t = 10 ∨ t = 11 ∨ t = 12 ∨ t = 13 ∨ t = 14 ∨ t = 15 ∨ t = 16 ∨ t = 17 ∨ t = 18 ∨ t = 19 ∨ t = 20 := by omega
      rcases hcs with rfl | rfl | rfl | rfl | rfl | rfl | rfl | rfl | rfl | rfl | rfl | rfl | rfl | rfl | rfl | rfl | rfl | rfl | rfl | rfl | rfl
      · refine lv_tableIn (off := 100) (tgt := 140) hx hb dL_law_40 (by rw [hti]; omega) (by rw [hti]; omega) (by rw [hti]; rfl) (by decide) ?_
        exact op_person l hst0 hx hb hml hown hts hX hbl hbA hLL hjL (by omega) (by omega) hW hg hLl hT hl kk
      · refine lv_tableIn (off := 156) (tgt := 196) hx hb dL_law_40 (by rw [hti]; omega) (by rw [hti]; omega) (by rw [hti]; rfl) (by decide) ?_
        exact op_die l hst0 hx hb hml hown hts hX hbl hbA hLL hjL (by omega) (by omega) hW hg hLl hT hl kk
      · refine lv_tableIn (off := 192) (tgt := 232) hx hb dL_law_40 (by rw [hti]; omega) (by rw [hti]; omega) (by rw [hti]; rfl) (by decide) ?_
        exact op_heir l hst0 hx hb hml hown hts hX hbl hbA hLL hjL (by omega) (by omega) hW hg hLl hT hl kk
      · refine lv_tableIn (off := 260) (tgt := 300) hx hb dL_law_40 (by rw [hti]; omega) (by rw [hti]; omega) (by rw [hti]; rfl) (by decide) ?_
        exact op_persecution l hst0 hx hb hml hown hts hX hbl hbA hLL hjL (by omega) (by omega) hW hg hLl hT hl kk
      · refine lv_tableIn (off := 352) (tgt := 392) hx hb dL_law_40 (by rw [hti]; omega) (by rw [hti]; omega) (by rw [hti]; rfl) (by decide) ?_
        exact op_faith l hst0 hx hb hml hown hts hX hbl hbA hLL hjL (by omega) (by omega) hW hg hLl hT hl kk
      · refine lv_tableIn (off := 420) (tgt := 460) hx hb dL_law_40 (by rw [hti]; omega) (by rw [hti]; omega) (by rw [hti]; rfl) (by decide) ?_
        exact op_now l hst0 hx hb hml hown hts hX hbl hbA hLL hjL (by omega) (by omega) hW hg hLl hT hl kk
      · refine lv_tableIn (off := 476) (tgt := 516) hx hb dL_law_40 (by rw [hti]; omega) (by rw [hti]; omega) (by rw [hti]; rfl) (by decide) ?_
        exact op_thing l hst0 hx hb hml hown hts hX hbl hbA hLL hjL (by omega) (by omega) hW hg hLl hT hl kk
      · refine lv_tableIn (off := 544) (tgt := 584) hx hb dL_law_40 (by rw [hti]; omega) (by rw [hti]; omega) (by rw [hti]; rfl) (by decide) ?_
        exact op_mark l hst0 hx hb hml hown hts hX hbl hbA hLL hjL (by omega) (by omega) hW hg hLl hT hl kk
      · refine lv_tableIn (off := 647) (tgt := 687) hx hb dL_law_40 (by rw [hti]; omega) (by rw [hti]; omega) (by rw [hti]; rfl) (by decide) ?_
        exact op_station l hst0 hx hb hml hown hts hX hbl hbA hLL hjL (by omega) (by omega) hW hg hLl hT hl kk
      · refine lv_tableIn (off := 751) (tgt := 791) hx hb dL_law_40 (by rw [hti]; omega) (by rw [hti]; omega) (by rw [hti]; rfl) (by decide) ?_
        exact op_rebut l hst0 hx hb hml hown hts hX hbl hbA hLL hjL (by omega) (by omega) hW hg hLl hT hl kk
      · refine lv_tableIn (off := 854) (tgt := 894) hx hb dL_law_40 (by rw [hti]; omega) (by rw [hti]; omega) (by rw [hti]; rfl) (by decide) ?_
        exact op_settle l hst0 hx hb hml hown hts hX hbl hbA hLL hjL (by omega) (by omega) hW hg hLl hT hl kk
      · refine lv_tableIn (off := 957) (tgt := 997) hx hb dL_law_40 (by rw [hti]; omega) (by rw [hti]; omega) (by rw [hti]; rfl) (by decide) ?_
        exact op_isPersecuted l hst0 hx hb hml hown hts hX hbl hbA hLL hjL (by omega) (by omega) hW hg hLl hT hl kk
      · refine lv_tableIn (off := 1044) (tgt := 1084) hx hb dL_law_40 (by rw [hti]; omega) (by rw [hti]; omega) (by rw [hti]; rfl) (by decide) ?_
        exact op_heirOf l hst0 hx hb hml hown hts hX hbl hbA hLL hjL (by omega) (by omega) hW hg hLl hT hl kk
      · refine lv_tableIn (off := 1100) (tgt := 1140) hx hb dL_law_40 (by rw [hti]; omega) (by rw [hti]; omega) (by rw [hti]; rfl) (by decide) ?_
        exact op_likeness l hst0 hx hb hml hown hts hX hbl hbA hLL hjL (by omega) (by omega) hW hg hLl hT hl kk
      · refine lv_tableIn (off := 1168) (tgt := 1208) hx hb dL_law_40 (by rw [hti]; omega) (by rw [hti]; omega) (by rw [hti]; rfl) (by decide) ?_
        exact op_likest l hst0 hx hb hml hown hts hX hbl hbA hLL hjL (by omega) (by omega) hW hg hLl hT hl kk
      · refine lv_tableIn (off := 1224) (tgt := 1264) hx hb dL_law_40 (by rw [hti]; omega) (by rw [hti]; omega) (by rw [hti]; rfl) (by decide) ?_
        exact op_stationAt l hst0 hx hb hml hown hts hX hbl hbA hLL hjL (by omega) (by omega) hW hg hLl hT hl kk
      · refine lv_tableIn (off := 1292) (tgt := 1332) hx hb dL_law_40 (by rw [hti]; omega) (by rw [hti]; omega) (by rw [hti]; rfl) (by decide) ?_
        exact op_isLoss l hst0 hx hb hml hown hts hX hbl hbA hLL hjL (by omega) (by omega) hW hg hLl hT hl kk
      · refine lv_tableIn (off := 1367) (tgt := 1407) hx hb dL_law_40 (by rw [hti]; omega) (by rw [hti]; omega) (by rw [hti]; rfl) (by decide) ?_
        exact op_holder l hst0 hx hb hml hown hts hX hbl hbA hLL hjL (by omega) (by omega) hW hg hLl hT hl kk
      · refine lv_tableIn (off := 1423) (tgt := 1463) hx hb dL_law_40 (by rw [hti]; omega) (by rw [hti]; omega) (by rw [hti]; rfl) (by decide) ?_
        exact op_owner l hst0 hx hb hml hown hts hX hbl hbA hLL hjL (by omega) (by omega) hW hg hLl hT hl kk
      · refine lv_tableIn (off := 1479) (tgt := 1519) hx hb dL_law_40 (by rw [hti]; omega) (by rw [hti]; omega) (by rw [hti]; rfl) (by decide) ?_
        exact op_ownerAnew l hst0 hx hb hml hown hts hX hbl hbA hLL hjL (by omega) (by omega) hW hg hLl hT hl kk
      · refine lv_tableIn (off := 1535) (tgt := 1575) hx hb dL_law_40 (by rw [hti]; omega) (by rw [hti]; omega) (by rw [hti]; rfl) (by decide) ?_
        exact op_asks l hst0 hx hb hml hown hts hX hbl hbA hLL hjL (by omega) (by omega) hW hg hLl hT hl kk
