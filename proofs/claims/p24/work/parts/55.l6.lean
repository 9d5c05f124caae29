/-! THE LAW: its run -/
set_option maxHeartbeats 4000000 in
set_option maxRecDepth 100000 in
theorem c_L_from (l : Launch) (hst0 : l.stackTraces = false) (D : xD) (sa : Nat → Nat) (xa : xA) (G : xG) (b L : Nat) (xs : Nat → Int32) (hLL : L ≤ 260) (k d : Nat) (hk : k < 2 ^ 31) (hd0 : 0 < d) (hd : d < 2 ^ 31) : zCi l yL_from wsL_from ({ frames := 10, cells := 0, slots := 0, locals := 200 } : Room) D sa xa G b L xs [.ref (b), .int (nI (k)), .int (nI (d))] (fun r u => u = (xa, G) ∧ ∃ v, v < d ∧ r = nI v) 0 0 := by
  intro sz
  refine Met.ofW (cc := cL_from) (maxL := 4) (ret := (some .int)) (by decide +kernel) rfl ?_
  intro p e s m args below meth c s₁ B hml hv
  obtain ⟨rfl, ⟨hsz, hv2⟩, hX, hbl, hGb⟩ := hv
  subst hsz
  have hx := B.exec
  have hb := B.bytes
  have hr := B.returns
  have hts := atoms_spec (ws := wsL_from) B.pre
  have hown : s.vm.findClass RL = some m.cls := findClass_of_methodNamed B.named
  have hlocks := B.notSynchronized
  have hW := xW.start (s := s) ⟨rfl, hv2⟩
  clear hv2
  have hbA := xAw_b hbl hGb
  generalize xAw xa (G) s.heap.size = A at hW hbA ⊢
  have hl := lv_entry ([.ref (b), .int (nI (k)), .int (nI (d))]) (n := 4) (Nat.le_of_ble_eq_true rfl)
  rw [lg_entry_eq]
  generalize (lg_sl ([.ref (b), .int (nI (k)), .int (nI (d))]) ++ List.replicate (4 - (lg_sl ([.ref (b), .int (nI (k)), .int (nI (d))])).length) Slot.unset).toArray = ls at hl ⊢
  have hl : lv_has ls 4 [(0, .ref (b)), (1, .int (nI (k))), (2, .int (nI (d)))] := hl
  refine x_joinI (ls := ls) (D := D) (sa := sa) (A := A) (xa := xa) (G := G) (P := fun v_ => True) (mpc := 27) (rest := []) (fun H locs v_27 hW h_27 => ?_) (fun J27 => ?_)
  · try dsimp only at h_27
    refine lv_istore_n (lv' := [(3, .int (v_27)), (0, .ref (b)), (1, .int (nI (k))), (2, .int (nI (d)))]) hx hb dL_from_27 rfl hl (by decide) rfl (fun ls hl => ?_)
    have hl : lv_has ls 4 [(0, .ref (b)), (1, .int (nI (k))), (2, .int (nI (d))), (3, .int (v_27))] := lv_sub hl [1, 2, 3, 0] rfl
    refine lv_iload_n hx hb dL_from_28 rfl (lv_at hl 3 rfl) ?_
    refine lv_ldc (v := nI 2147483647) hx hb hown (hts (.constant RL 8 (2147483647)) (by decide +kernel)) dL_from_29 ?_
    refine lv_iand hx hb dL_from_31 ?_
    obtain ⟨j_, hj_, ej_⟩ := pk_andE (v_27) (m := nI 2147483647) 31 (by decide +kernel)
    rw [ej_]
    refine lv_iload_n hx hb dL_from_32 rfl (lv_at hl 2 rfl) ?_
    refine lv_irem hx hb dL_from_33 (nI_ne0 (n := d) (by omega) (by omega)) ?_
    rw [n_rem (a := j_) (d := d) (by omega) (by omega) (by omega)]
    exact xe_i hx hb hr rfl hlocks hW ⟨rfl, _, Nat.mod_lt j_ hd0, rfl⟩ (Nat.le_of_ble_eq_true rfl) (Nat.le_of_ble_eq_true rfl) dL_from_34
  ·
    refine lv_aload_n hx hb dL_from_0 rfl (lv_at hl 0 rfl) ?_
    refine l_slen hx hb hX hbl hbA hW dL_from_1 ?_
    refine lv_if_ne (tgt := 16) hx hb dL_from_2 (by decide) (fun c_2 => ?_) (fun c_2 => ?_)
    · -- ne taken
      have c_2 : ¬ (L = 0) := fun h_ => c_2 ((x_eqZ (a := L) (by omega)).mpr h_)
      refine lv_aload_n hx hb dL_from_16 rfl (lv_at hl 0 rfl) ?_
      refine lv_iload_n hx hb dL_from_17 rfl (lv_at hl 1 rfl) ?_
      refine lv_aload_n hx hb dL_from_18 rfl (lv_at hl 0 rfl) ?_
      refine l_slen hx hb hX hbl hbA hW dL_from_19 ?_
      refine lv_irem hx hb dL_from_20 (nI_ne0 (n := L) (by omega) (by omega)) ?_
      rw [n_rem (a := k) (d := L) (by omega) (by omega) (by omega)]
      have hkL := Nat.mod_lt k (show 0 < L by omega)
      refine l_sld hx hb hX hbl hbA hLL hW (j := k % L) hkL dL_from_21 ?_
      refine lv_ldc (v := nI 596572) hx hb hown (hts (.constant RL 7 (596572)) (by decide +kernel)) dL_from_22 ?_
      refine lv_iload_n hx hb dL_from_24 rfl (lv_at hl 1 rfl) ?_
      refine lv_imul hx hb dL_from_25 ?_
      rw [pk_mul]
      refine lv_ixor hx hb dL_from_26 ?_
      exact J27 _ _ ((xs (k % L)) ^^^ (nI (596572 * k))) hW (trivial)
    · -- ne not
      have c_2 := (x_eqZ (a := L) (by omega)).mp c_2
      refine lv_sipush (v := nI (677)) hx hb dL_from_5 (by decide +kernel) ?_
      refine lv_iload_n hx hb dL_from_8 rfl (lv_at hl 1 rfl) ?_
      refine lv_imul hx hb dL_from_9 ?_
      rw [pk_mul]
      refine lv_bipush (v := nI (97)) hx hb dL_from_10 (by decide +kernel) ?_
      refine lv_iadd hx hb dL_from_12 ?_
      rw [nI_add]
      refine lv_goto (tgt := 27) hx hb dL_from_13 (by decide) ?_
      exact J27 _ _ (nI (677 * k + 97)) hW (trivial)

set_option maxHeartbeats 4000000 in
set_option maxRecDepth 100000 in
theorem c_L_holds (l : Launch) (hst0 : l.stackTraces = false) (D : xD) (sa : Nat → Nat) (xa : xA) (b L : Nat) (xs : Nat → Int32) (hLL : L ≤ 260)  : zCi l yL_holds wsL_holds ({ frames := 36, cells := 2000, slots := 12000, locals := 1500 } : Room) D sa xa (fun _ _ => none) b L xs [.ref (b)] (fun r _ => r = 1) 2000 12000 := by
  intro sz
  refine Met.ofW (cc := cL_holds) (maxL := 12) (ret := (some .boolean)) (by decide +kernel) rfl ?_
  intro p e s m args below meth c s₁ B hml hv
  obtain ⟨rfl, ⟨hsz, hv2⟩, hX, hbl, hGb⟩ := hv
  subst hsz
  have hx := B.exec
  have hb := B.bytes
  have hr := B.returns
  have hts := atoms_spec (ws := wsL_holds) B.pre
  have hown : s.vm.findClass RL = some m.cls := findClass_of_methodNamed B.named
  have hlocks := B.notSynchronized
  have hW := xW.start (s := s) ⟨rfl, hv2⟩
  clear hv2
  have hbA := xAw_b hbl hGb
  generalize xAw xa (fun _ _ => none) s.heap.size = A at hW hbA ⊢
  have hl := lv_entry ([.ref (b)]) (n := 12) (Nat.le_of_ble_eq_true rfl)
  rw [lg_entry_eq]
  generalize (lg_sl ([.ref (b)]) ++ List.replicate (12 - (lg_sl ([.ref (b)])).length) Slot.unset).toArray = ls at hl ⊢
  have hl : lv_has ls 12 [(0, .ref (b))] := hl
  have hin4 : ∀ w ∈ wsX40, w ∈ wsL_holds := fun w h => (List.mem_cons_of_mem _ (List.mem_append_left _ (List.mem_append_left _ (List.mem_append_left _ (List.mem_append_left _ (List.mem_append_left _ (List.mem_append_left _ (List.mem_append_left _ (List.mem_append_right _ h)))))))))
  refine x_new hx hb hts hin4 tyX4 tyX4_ok hown (hts (.classLink RL 40 RX4) (by decide +kernel)) (hts (.instantiable RX4 8) (by decide +kernel)) (hts (.initialized RX4) (by decide +kernel)) hW 0 0 (ci := 4) rfl rfl (fs := [.null, .int (nI 0), .null, .int (nI 0), .null, .int (nI 0), .null, .int (nI 0)]) (fun j hj => match j, hj with | 0, _ => rfl | 1, _ => rfl | 2, _ => rfl | 3, _ => rfl | 4, _ => rfl | 5, _ => rfl | 6, _ => rfl | 7, _ => rfl | j + 8, hj => absurd hj (by omega)) (Nat.le_of_ble_eq_true rfl) (Nat.le_of_ble_eq_true rfl) dL_holds_0 fun y1 H hy1 hW => ?_
  refine lv_dup hx hb dL_holds_3 rfl ?_
  refine xi_v (k := 0) (i := 0) (As := []) (rest := [.ref (y1 0 0)]) ⟨hx, hb, hml, hown, hts⟩ (c_X4_init l D sa y1 _ (xup_self _ _ _ _) (fun k i h => xup_ne _ _ h.2)) (cwI 0 hts gL_holds_X4_init rfl rfl rfl (hts (.initialized RX4) (by decide +kernel)) (hts (.methodLink RL 108 yX4_init) (by decide +kernel)) (hts (.instanceMethod yX4_init) (by decide +kernel)) rfl (by decide +kernel) ⟨Nat.le_of_ble_eq_true rfl, Nat.le_of_ble_eq_true rfl⟩) hW rfl rfl hl.1 (Nat.le_of_ble_eq_true rfl) dL_holds_4 ⟨Nat.le_of_ble_eq_true rfl, Nat.le_of_ble_eq_true rfl⟩ (fun xa1 G1 H locs hp hW => ?_)
  obtain ⟨y2, hy2, hu⟩ := hp
  have hu2 : G1 = _ := congrArg Prod.snd hu
  subst hu2
  have hu1 : y2 = xa1 := (congrArg Prod.fst hu).symm
  subst hu1
  obtain ⟨e0, hW⟩ : ∃ e0 : va_E, xW D sa A s y2 (xGs (xup (fun _ _ => none) 0 0 e0) D y2 sg0 tg0) H locs := ⟨_, hW⟩
  refine W_stk (st' := [.ref (y2 0 0)]) (by rw [hy2 0 0 (by omega)]) ?_
  refine lv_astore_n (lv' := [(1, .ref (y2 0 0)), (0, .ref b)]) hx hb dL_holds_7 rfl hl (by decide) rfl (fun ls hl => ?_)
  refine lv_bipush (v := nI 8) hx hb dL_holds_8 (by decide +kernel) ?_
  refine x_newa (atype := .int) (N' := 8) (a0 := (8, .inl (fun _ => nI 0))) hx hb (hts (.arrayClass .int) (by decide +kernel)) 4 (ty := .int) rfl rfl id hW 40 0 ((if_neg (by omega)).trans (xup_ne _ _ (by omega))) (fun cA => by rw [vp_cell_i]; rfl) (by decide +kernel) (by decide +kernel) (by decide +kernel) (Nat.le_of_ble_eq_true rfl) (Nat.le_of_ble_eq_true rfl) dL_holds_10 fun y3 H hy3 hW => ?_
  have hl : lv_has ls 12 [(1, .ref (y3 0 0)), (0, .ref b)] := by rw [hy3 0 0 (by omega)]; exact hl
  refine lv_astore_n (lv' := [(2, .ref (y3 40 0)), (1, .ref (y3 0 0)), (0, .ref b)]) hx hb dL_holds_12 rfl hl (by decide) rfl (fun ls hl => ?_)
  refine lv_bipush (v := nI 8) hx hb dL_holds_13 (by decide +kernel) ?_
  refine x_newa (atype := .long) (N' := 8) (a0 := (8, .inr (.inl (fun _ => 0)))) hx hb (hts (.arrayClass .long) (by decide +kernel)) 6 (ty := .long) rfl rfl id hW 41 0 ((xup_ne _ _ (by omega)).trans ((if_neg (by omega)).trans (xup_ne _ _ (by omega)))) (fun cA => by rw [vp_cell_l]; rfl) (by decide +kernel) (by decide +kernel) (by decide +kernel) (Nat.le_of_ble_eq_true rfl) (Nat.le_of_ble_eq_true rfl) dL_holds_15 fun y4 H hy4 hW => ?_
  have hl : lv_has ls 12 [(2, .ref (y4 40 0)), (1, .ref (y4 0 0)), (0, .ref b)] := by rw [hy4 40 0 (by omega), hy4 0 0 (by omega)]; exact hl
  refine lv_astore_n (lv' := [(3, .ref (y4 41 0)), (2, .ref (y4 40 0)), (1, .ref (y4 0 0)), (0, .ref b)]) hx hb dL_holds_17 rfl hl (by decide) rfl (fun ls hl => ?_)
  refine lv_bipush (v := nI 32) hx hb dL_holds_18 (by decide +kernel) ?_
  refine x_newa (atype := .int) (N' := 32) (a0 := (32, .inl (fun _ => nI 0))) hx hb (hts (.arrayClass .int) (by decide +kernel)) 4 (ty := .int) rfl rfl id hW 42 0 ((xup_ne _ _ (by omega)).trans ((xup_ne _ _ (by omega)).trans ((if_neg (by omega)).trans (xup_ne _ _ (by omega))))) (fun cA => by rw [vp_cell_i]; rfl) (by decide +kernel) (by decide +kernel) (by decide +kernel) (Nat.le_of_ble_eq_true rfl) (Nat.le_of_ble_eq_true rfl) dL_holds_20 fun y5 H hy5 hW => ?_
  have hl : lv_has ls 12 [(3, .ref (y5 41 0)), (2, .ref (y5 40 0)), (1, .ref (y5 0 0)), (0, .ref b)] := by rw [hy5 41 0 (by omega), hy5 40 0 (by omega), hy5 0 0 (by omega)]; exact hl
  refine lv_astore (lv' := [(4, .ref (y5 42 0)), (3, .ref (y5 41 0)), (2, .ref (y5 40 0)), (1, .ref (y5 0 0)), (0, .ref b)]) hx hb dL_holds_22 hl (by decide) rfl (fun ls hl => ?_)
  refine lv_bipush (v := nI 6) hx hb dL_holds_24 (by decide +kernel) ?_
  refine x_newa (atype := .int) (N' := 6) (a0 := (6, .inl (fun _ => nI 0))) hx hb (hts (.arrayClass .int) (by decide +kernel)) 4 (ty := .int) rfl rfl id hW 43 0 ((xup_ne _ _ (by omega)).trans ((xup_ne _ _ (by omega)).trans ((xup_ne _ _ (by omega)).trans ((if_neg (by omega)).trans (xup_ne _ _ (by omega)))))) (fun cA => by rw [vp_cell_i]; rfl) (by decide +kernel) (by decide +kernel) (by decide +kernel) (Nat.le_of_ble_eq_true rfl) (Nat.le_of_ble_eq_true rfl) dL_holds_26 fun y6 H hy6 hW => ?_
  have hl : lv_has ls 12 [(4, .ref (y6 42 0)), (3, .ref (y6 41 0)), (2, .ref (y6 40 0)), (1, .ref (y6 0 0)), (0, .ref b)] := by rw [hy6 42 0 (by omega), hy6 41 0 (by omega), hy6 40 0 (by omega), hy6 0 0 (by omega)]; exact hl
  refine lv_astore (lv' := [(5, .ref (y6 43 0)), (4, .ref (y6 42 0)), (3, .ref (y6 41 0)), (2, .ref (y6 40 0)), (1, .ref (y6 0 0)), (0, .ref b)]) hx hb dL_holds_28 hl (by decide) rfl (fun ls hl => ?_)
  refine lv_bipush (v := nI 24) hx hb dL_holds_30 (by decide +kernel) ?_
  refine x_newa (atype := .int) (N' := 24) (a0 := (24, .inl (fun _ => nI 0))) hx hb (hts (.arrayClass .int) (by decide +kernel)) 4 (ty := .int) rfl rfl id hW 44 0 ((xup_ne _ _ (by omega)).trans ((xup_ne _ _ (by omega)).trans ((xup_ne _ _ (by omega)).trans ((xup_ne _ _ (by omega)).trans ((if_neg (by omega)).trans (xup_ne _ _ (by omega))))))) (fun cA => by rw [vp_cell_i]; rfl) (by decide +kernel) (by decide +kernel) (by decide +kernel) (Nat.le_of_ble_eq_true rfl) (Nat.le_of_ble_eq_true rfl) dL_holds_32 fun y7 H hy7 hW => ?_
  have hl : lv_has ls 12 [(5, .ref (y7 43 0)), (4, .ref (y7 42 0)), (3, .ref (y7 41 0)), (2, .ref (y7 40 0)), (1, .ref (y7 0 0)), (0, .ref b)] := by rw [hy7 43 0 (by omega), hy7 42 0 (by omega), hy7 41 0 (by omega), hy7 40 0 (by omega), hy7 0 0 (by omega)]; exact hl
  refine lv_astore (lv' := [(6, .ref (y7 44 0)), (5, .ref (y7 43 0)), (4, .ref (y7 42 0)), (3, .ref (y7 41 0)), (2, .ref (y7 40 0)), (1, .ref (y7 0 0)), (0, .ref b)]) hx hb dL_holds_34 hl (by decide) rfl (fun ls hl => ?_)
  refine lv_bipush (v := nI 10) hx hb dL_holds_36 (by decide +kernel) ?_
  refine x_newa (atype := .int) (N' := 10) (a0 := (10, .inl (fun _ => nI 0))) hx hb (hts (.arrayClass .int) (by decide +kernel)) 4 (ty := .int) rfl rfl id hW 45 0 ((xup_ne _ _ (by omega)).trans ((xup_ne _ _ (by omega)).trans ((xup_ne _ _ (by omega)).trans ((xup_ne _ _ (by omega)).trans ((xup_ne _ _ (by omega)).trans ((if_neg (by omega)).trans (xup_ne _ _ (by omega)))))))) (fun cA => by rw [vp_cell_i]; rfl) (by decide +kernel) (by decide +kernel) (by decide +kernel) (Nat.le_of_ble_eq_true rfl) (Nat.le_of_ble_eq_true rfl) dL_holds_38 fun y8 H hy8 hW => ?_
  have hl : lv_has ls 12 [(6, .ref (y8 44 0)), (5, .ref (y8 43 0)), (4, .ref (y8 42 0)), (3, .ref (y8 41 0)), (2, .ref (y8 40 0)), (1, .ref (y8 0 0)), (0, .ref b)] := by rw [hy8 44 0 (by omega), hy8 43 0 (by omega), hy8 42 0 (by omega), hy8 41 0 (by omega), hy8 40 0 (by omega), hy8 0 0 (by omega)]; exact hl
  refine lv_astore (lv' := [(7, .ref (y8 45 0)), (6, .ref (y8 44 0)), (5, .ref (y8 43 0)), (4, .ref (y8 42 0)), (3, .ref (y8 41 0)), (2, .ref (y8 40 0)), (1, .ref (y8 0 0)), (0, .ref b)]) hx hb dL_holds_40 hl (by decide) rfl (fun ls hl => ?_)
  have hW := w24_0 (y2 := y2) (fun k hk => funext fun i => (hy8 k i (by omega)).trans ((hy7 k i (by omega)).trans ((hy6 k i (by omega)).trans ((hy5 k i (by omega)).trans ((hy4 k i (by omega)).trans (hy3 k i (by omega))))))) hW
  have hl : lv_has ls 12 [(0, .ref (b)), (1, .ref (y8 0 0)), (2, .ref (y8 40 0)), (3, .ref (y8 41 0)), (4, .ref (y8 42 0)), (5, .ref (y8 43 0)), (6, .ref (y8 44 0)), (7, .ref (y8 45 0))] := lv_sub hl [7, 6, 5, 4, 3, 2, 1, 0] rfl
  refine lv_aload hx hb dL_holds_42 (lv_at hl 7 rfl) ?_
  refine lv_iconst (v := nI 0) hx hb dL_holds_44 (by decide +kernel) ?_
  refine lv_sipush (v := nI 1900) hx hb dL_holds_45 (by decide +kernel) ?_
  refine x_ist hx hb hW 45 0 (LA_45 LA_x) 0 rfl (by omega) (by omega) dL_holds_48 fun H locs hW => ?_
  have hW : xW D sa A s y8 (xGs (LG D sg0) D y8 sg0 tg0) H locs := hW.eqG ((LG_up (by omega) (LG_m _)).trans (congrArg (fun g => xGs g D y8 sg0 tg0) LG_sg0)).symm
  refine lv_iconst (v := nI (1)) hx hb dL_holds_49 (by decide +kernel) ?_
  refine lv_istore (lv' := [(8, .int (nI (1))), (0, .ref (b)), (1, .ref (y8 0 0)), (2, .ref (y8 40 0)), (3, .ref (y8 41 0)), (4, .ref (y8 42 0)), (5, .ref (y8 43 0)), (6, .ref (y8 44 0)), (7, .ref (y8 45 0))]) hx hb dL_holds_50 hl (by decide) rfl (fun ls hl => ?_)
  have hl : lv_has ls 12 [(0, .ref (b)), (1, .ref (y8 0 0)), (2, .ref (y8 40 0)), (3, .ref (y8 41 0)), (4, .ref (y8 42 0)), (5, .ref (y8 43 0)), (6, .ref (y8 44 0)), (7, .ref (y8 45 0)), (8, .int (nI (1)))] := lv_sub hl [1, 2, 3, 4, 5, 6, 7, 8, 0] rfl
  refine lv_iconst (v := nI (0)) hx hb dL_holds_52 (by decide +kernel) ?_
  refine lv_istore (lv' := [(9, .int (nI (0))), (0, .ref (b)), (1, .ref (y8 0 0)), (2, .ref (y8 40 0)), (3, .ref (y8 41 0)), (4, .ref (y8 42 0)), (5, .ref (y8 43 0)), (6, .ref (y8 44 0)), (7, .ref (y8 45 0)), (8, .int (nI (1)))]) hx hb dL_holds_53 hl (by decide) rfl (fun ls hl => ?_)
  have hl : lv_has ls 12 [(0, .ref (b)), (1, .ref (y8 0 0)), (2, .ref (y8 40 0)), (3, .ref (y8 41 0)), (4, .ref (y8 42 0)), (5, .ref (y8 43 0)), (6, .ref (y8 44 0)), (7, .ref (y8 45 0)), (8, .int (nI (1))), (9, .int (nI (0)))] := lv_sub hl [1, 2, 3, 4, 5, 6, 7, 8, 9, 0] rfl
  refine W.widen (k := 20 + 3 * 0) (n := 200 + 23 * 0) (by omega) (by omega) ?_
  refine x_loopC (X := Nat × Sg × Tg × xA) (I := fun n xv H locs ls => n = 8 - xv.1 ∧ xW D sa A s xv.2.2.2 (xGs (LG D xv.2.1) D xv.2.2.2 xv.2.1 xv.2.2.1) H locs ∧ lv_has ls 12 [(0, .ref (b)), (1, .ref (xv.2.2.2 0 0)), (2, .ref (xv.2.2.2 40 0)), (3, .ref (xv.2.2.2 41 0)), (4, .ref (xv.2.2.2 42 0)), (5, .ref (xv.2.2.2 43 0)), (6, .ref (xv.2.2.2 44 0)), (7, .ref (xv.2.2.2 45 0)), (8, .int (nI (1))), (9, .int (nI (xv.1)))] ∧ (Gd xv.2.1) ∧ (xv.2.1 5 0 = xv.1) ∧ (xv.2.1 12 0 = 0) ∧ (xv.2.1 7 0 = 0) ∧ (LL xv.2.1 xv.2.2.1) ∧ (TE xv.2.1 xv.2.2.1) ∧ (xv.1 ≤ 8)) (cl := fun xv => 20 + 3 * xv.1) (sl := fun xv => 200 + 23 * xv.1) (hd := 55) ?_ (n := _) (x := (0, sg0, tg0, y8)) ⟨rfl, hW, hl, sg0_Gd, rfl, rfl, rfl, sg0_LL, sg0_TE, by (try dsimp only); omega⟩
  rintro n ⟨k, sg, ta, y⟩ H locs ls ⟨hn, hW, hl, hg, h5, h12, h7, hL, hT, hk⟩ ih55
  try dsimp only at hn hW hl hg h5 h12 h7 hL hT hk
  show W _ _ _ _ _ _ _ _ _ _ _ _ (20 + 3 * k) (200 + 23 * k) _ _
  refine lv_iload hx hb dL_holds_55 (lv_at hl 9 rfl) ?_
  refine lv_bipush (v := nI (8)) hx hb dL_holds_57 (by decide +kernel) ?_
  refine lv_icmp_ge (tgt := 108) hx hb dL_holds_59 (by decide) (fun c_59 => ?_) (fun c_59 => ?_)
  · -- ge taken
    have c_59 := Int32.le_iff_toInt_le.mp c_59
    rw [nI_toInt (n := k) (by omega)] at c_59
    rw [nI_toInt (n := 8) (by omega)] at c_59
    refine lv_iconst (v := nI (0)) hx hb dL_holds_108 (by decide +kernel) ?_
    refine lv_istore (lv' := [(9, .int (nI (0))), (0, .ref (b)), (1, .ref (y 0 0)), (2, .ref (y 40 0)), (3, .ref (y 41 0)), (4, .ref (y 42 0)), (5, .ref (y 43 0)), (6, .ref (y 44 0)), (7, .ref (y 45 0)), (8, .int (nI (1)))]) hx hb dL_holds_109 hl (by decide) rfl (fun ls hl => ?_)
    have hl : lv_has ls 12 [(0, .ref (b)), (1, .ref (y 0 0)), (2, .ref (y 40 0)), (3, .ref (y 41 0)), (4, .ref (y 42 0)), (5, .ref (y 43 0)), (6, .ref (y 44 0)), (7, .ref (y 45 0)), (8, .int (nI (1))), (9, .int (nI (0)))] := lv_sub hl [1, 2, 3, 4, 5, 6, 7, 8, 9, 0] rfl
    have h58 : sg 5 0 = 8 := by omega
    refine W.widen (k := 50 + 4 * 0) (n := 400 + 26 * 0) (by omega) (by omega) ?_
    refine x_loopC (X := Nat × Sg × Tg × xA) (I := fun n xv H locs ls => n = 3 - xv.1 ∧ xW D sa A s xv.2.2.2 (xGs (LG D xv.2.1) D xv.2.2.2 xv.2.1 xv.2.2.1) H locs ∧ lv_has ls 12 [(0, .ref (b)), (1, .ref (xv.2.2.2 0 0)), (2, .ref (xv.2.2.2 40 0)), (3, .ref (xv.2.2.2 41 0)), (4, .ref (xv.2.2.2 42 0)), (5, .ref (xv.2.2.2 43 0)), (6, .ref (xv.2.2.2 44 0)), (7, .ref (xv.2.2.2 45 0)), (8, .int (nI (1))), (9, .int (nI (xv.1)))] ∧ (Gd xv.2.1) ∧ (xv.2.1 5 0 = 8) ∧ (xv.2.1 12 0 = xv.1) ∧ (xv.2.1 7 0 = 0) ∧ (LL xv.2.1 xv.2.2.1) ∧ (TE xv.2.1 xv.2.2.1) ∧ (xv.1 ≤ 3)) (cl := fun xv => 50 + 4 * xv.1) (sl := fun xv => 400 + 26 * xv.1) (hd := 111) ?_ (n := _) (x := (0, sg, ta, y)) ⟨rfl, hW, hl, hg, h58, h12, h7, hL, hT, by (try dsimp only); omega⟩
    rintro n ⟨k, sg, ta, y⟩ H locs ls ⟨hn, hW, hl, hg, h5, h12, h7, hL, hT, hk⟩ ih111
    try dsimp only at hn hW hl hg h5 h12 h7 hL hT hk
    show W _ _ _ _ _ _ _ _ _ _ _ _ (50 + 4 * k) (400 + 26 * k) _ _
    refine lv_iload hx hb dL_holds_111 (lv_at hl 9 rfl) ?_
    refine lv_iconst (v := nI (3)) hx hb dL_holds_113 (by decide +kernel) ?_
    refine lv_icmp_ge (tgt := 201) hx hb dL_holds_114 (by decide) (fun c_114 => ?_) (fun c_114 => ?_)
    · -- ge taken
      have c_114 := Int32.le_iff_toInt_le.mp c_114
      rw [nI_toInt (n := k) (by omega)] at c_114
      rw [nI_toInt (n := 3) (by omega)] at c_114
      refine lv_iconst (v := nI (0)) hx hb dL_holds_201 (by decide +kernel) ?_
      refine lv_istore (lv' := [(9, .int (nI (0))), (0, .ref (b)), (1, .ref (y 0 0)), (2, .ref (y 40 0)), (3, .ref (y 41 0)), (4, .ref (y 42 0)), (5, .ref (y 43 0)), (6, .ref (y 44 0)), (7, .ref (y 45 0)), (8, .int (nI (1)))]) hx hb dL_holds_202 hl (by decide) rfl (fun ls hl => ?_)
      have hl : lv_has ls 12 [(0, .ref (b)), (1, .ref (y 0 0)), (2, .ref (y 40 0)), (3, .ref (y 41 0)), (4, .ref (y 42 0)), (5, .ref (y 43 0)), (6, .ref (y 44 0)), (7, .ref (y 45 0)), (8, .int (nI (1))), (9, .int (nI (0)))] := lv_sub hl [1, 2, 3, 4, 5, 6, 7, 8, 9, 0] rfl
      have hI0 : LI sg := ⟨hg, h5, by omega, by omega⟩
      refine W.widen (k := 100 + 30 * 0) (n := 500 + 183 * 0) (by omega) (by omega) ?_
      refine x_loopC (X := Nat × Sg × Tg × xA) (I := fun n xv H locs ls => n = 60 - xv.1 ∧ xW D sa A s xv.2.2.2 (xGs (LG D xv.2.1) D xv.2.2.2 xv.2.1 xv.2.2.1) H locs ∧ lv_has ls 12 [(0, .ref (b)), (1, .ref (xv.2.2.2 0 0)), (2, .ref (xv.2.2.2 40 0)), (3, .ref (xv.2.2.2 41 0)), (4, .ref (xv.2.2.2 42 0)), (5, .ref (xv.2.2.2 43 0)), (6, .ref (xv.2.2.2 44 0)), (7, .ref (xv.2.2.2 45 0)), (8, .int (nI (1))), (9, .int (nI (xv.1)))] ∧ (LI xv.2.1) ∧ (LL xv.2.1 xv.2.2.1) ∧ (TE xv.2.1 xv.2.2.1) ∧ (xv.1 ≤ 60)) (cl := fun xv => 100 + 30 * xv.1) (sl := fun xv => 500 + 183 * xv.1) (hd := 204) ?_ (n := _) (x := (0, sg, ta, y)) ⟨rfl, hW, hl, hI0, hL, hT, by (try dsimp only); omega⟩
      rintro n ⟨k, sg, ta, y⟩ H locs ls ⟨hn, hW, hl, hI, hL, hT, hk⟩ ih204
      try dsimp only at hn hW hl hI hL hT hk
      show W _ _ _ _ _ _ _ _ _ _ _ _ (100 + 30 * k) (500 + 183 * k) _ _
      refine lv_iload hx hb dL_holds_204 (lv_at hl 9 rfl) ?_
      refine lv_bipush (v := nI (60)) hx hb dL_holds_206 (by decide +kernel) ?_
      refine lv_icmp_ge (tgt := 417) hx hb dL_holds_208 (by decide) (fun c_208 => ?_) (fun c_208 => ?_)
      · -- ge taken
        have c_208 := Int32.le_iff_toInt_le.mp c_208
        rw [nI_toInt (n := k) (by omega)] at c_208
        rw [nI_toInt (n := 60) (by omega)] at c_208
        refine lv_iload hx hb dL_holds_417 (lv_at hl 8 rfl) ?_
        exact xe_i hx hb hr rfl hlocks hW rfl (by omega) (by omega) dL_holds_419
      · -- ge not
        have c_208 : ¬ ((nI (60)).toInt ≤ (nI (k)).toInt) := fun h => c_208 (Int32.le_iff_toInt_le.mpr h)
        rw [nI_toInt (n := k) (by omega)] at c_208
        rw [nI_toInt (n := 60) (by omega)] at c_208
        refine lv_iload hx hb dL_holds_211 (lv_at hl 8 rfl) ?_
        refine lv_if_eq (tgt := 417) hx hb dL_holds_213 (by decide) (fun c_213 => ?_) (fun c_213 => ?_)
        · -- eq taken
          exact absurd c_213 (by decide)
        · -- eq not
          refine lv_aload_n hx hb dL_holds_216 rfl (lv_at hl 0 rfl) ?_
          refine lv_iconst (v := nI (2)) hx hb dL_holds_217 (by decide +kernel) ?_
          refine lv_iload hx hb dL_holds_218 (lv_at hl 9 rfl) ?_
          refine lv_imul hx hb dL_holds_220 ?_
          rw [pk_mul]
          refine lv_bipush (v := nI (32)) hx hb dL_holds_221 (by decide +kernel) ?_
          refine xs_z (As := [.ref (b), .int (nI (2 * k)), .int (nI (32))]) (rest := []) ⟨hx, hb, hml, hown, hts⟩ (c_L_from l hst0 D sa y (xGs (LG D sg) D y sg ta) b L xs hLL (2 * k) (32) (by omega) (by omega) (by omega)) (va_cwS 3 hts gL_holds_L_from rfl rfl rfl (by decide +kernel) ⟨Nat.le_of_ble_eq_true rfl, Nat.le_of_ble_eq_true rfl⟩) hX hbl hbA hW rfl rfl hl.1 (Nat.le_of_ble_eq_true rfl) dL_holds_223 ⟨by show 100 + 30 * k + 0 ≤ 2000; omega, by show 500 + 183 * k + 0 ≤ 12000; omega⟩ (fun r_223 xa1 G1 H locs hp hW => ?_)
          obtain ⟨hu, way, hway, hr_223⟩ := hp
          cases hu
          subst hr_223
          refine lv_istore (lv' := [(10, .int (nI (way))), (0, .ref (b)), (1, .ref (y 0 0)), (2, .ref (y 40 0)), (3, .ref (y 41 0)), (4, .ref (y 42 0)), (5, .ref (y 43 0)), (6, .ref (y 44 0)), (7, .ref (y 45 0)), (8, .int (nI (1))), (9, .int (nI (k)))]) hx hb dL_holds_226 hl (by decide) rfl (fun ls hl => ?_)
          have hl : lv_has ls 12 [(0, .ref (b)), (1, .ref (y 0 0)), (2, .ref (y 40 0)), (3, .ref (y 41 0)), (4, .ref (y 42 0)), (5, .ref (y 43 0)), (6, .ref (y 44 0)), (7, .ref (y 45 0)), (8, .int (nI (1))), (9, .int (nI (k))), (10, .int (nI (way)))] := lv_sub hl [1, 2, 3, 4, 5, 6, 7, 8, 9, 10, 0] rfl
          refine lv_aload_n hx hb dL_holds_228 rfl (lv_at hl 0 rfl) ?_
          refine lv_iconst (v := nI (2)) hx hb dL_holds_229 (by decide +kernel) ?_
          refine lv_iload hx hb dL_holds_230 (lv_at hl 9 rfl) ?_
          refine lv_imul hx hb dL_holds_232 ?_
          rw [pk_mul]
          refine lv_iconst (v := nI (1)) hx hb dL_holds_233 (by decide +kernel) ?_
          refine lv_iadd hx hb dL_holds_234 ?_
          rw [nI_add]
          refine lv_ldc (v := nI 1000000000) hx hb hown (hts (.constant RL 119 (1000000000)) (by decide +kernel)) dL_holds_235 ?_
          refine xs_z (As := [.ref (b), .int (nI (2 * k + 1)), .int (nI (1000000000))]) (rest := []) ⟨hx, hb, hml, hown, hts⟩ (c_L_from l hst0 D sa y (xGs (LG D sg) D y sg ta) b L xs hLL (2 * k + 1) (1000000000) (by omega) (by omega) (by omega)) (va_cwS 3 hts gL_holds_L_from rfl rfl rfl (by decide +kernel) ⟨Nat.le_of_ble_eq_true rfl, Nat.le_of_ble_eq_true rfl⟩) hX hbl hbA hW rfl rfl hl.1 (Nat.le_of_ble_eq_true rfl) dL_holds_237 ⟨by show 100 + 30 * k + 0 + 0 ≤ 2000; omega, by show 500 + 183 * k + 0 + 0 ≤ 12000; omega⟩ (fun r_237 xa1 G1 H locs hp hW => ?_)
          obtain ⟨hu, z, hz, hr_237⟩ := hp
          cases hu
          subst hr_237
          refine lv_istore (lv' := [(11, .int (nI (z))), (0, .ref (b)), (1, .ref (y 0 0)), (2, .ref (y 40 0)), (3, .ref (y 41 0)), (4, .ref (y 42 0)), (5, .ref (y 43 0)), (6, .ref (y 44 0)), (7, .ref (y 45 0)), (8, .int (nI (1))), (9, .int (nI (k))), (10, .int (nI (way)))]) hx hb dL_holds_240 hl (by decide) rfl (fun ls hl => ?_)
          have hl : lv_has ls 12 [(0, .ref (b)), (1, .ref (y 0 0)), (2, .ref (y 40 0)), (3, .ref (y 41 0)), (4, .ref (y 42 0)), (5, .ref (y 43 0)), (6, .ref (y 44 0)), (7, .ref (y 45 0)), (8, .int (nI (1))), (9, .int (nI (k))), (10, .int (nI (way))), (11, .int (nI (z)))] := lv_sub hl [1, 2, 3, 4, 5, 6, 7, 8, 9, 10, 11, 0] rfl
          refine lv_iload hx hb dL_holds_242 (lv_at hl 10 rfl) ?_
          refine lv_bipush (v := nI (7)) hx hb dL_holds_244 (by decide +kernel) ?_
          refine lv_icmp_ge (tgt := 273) hx hb dL_holds_246 (by decide) (fun c_246 => ?_) (fun c_246 => ?_)
          · -- ge taken
            have c_246 := Int32.le_iff_toInt_le.mp c_246
            rw [nI_toInt (n := way) (by omega)] at c_246
            rw [nI_toInt (n := 7) (by omega)] at c_246
            refine lv_iload hx hb dL_holds_273 (lv_at hl 10 rfl) ?_
            refine lv_bipush (v := nI (15)) hx hb dL_holds_275 (by decide +kernel) ?_
            refine lv_icmp_ge (tgt := 318) hx hb dL_holds_277 (by decide) (fun c_277 => ?_) (fun c_277 => ?_)
            · -- ge taken
              have c_277 := Int32.le_iff_toInt_le.mp c_277
              rw [nI_toInt (n := way) (by omega)] at c_277
              rw [nI_toInt (n := 15) (by omega)] at c_277
              refine lv_iload hx hb dL_holds_318 (lv_at hl 10 rfl) ?_
              refine lv_bipush (v := nI (24)) hx hb dL_holds_320 (by decide +kernel) ?_
              refine lv_icmp_ge (tgt := 340) hx hb dL_holds_322 (by decide) (fun c_322 => ?_) (fun c_322 => ?_)
              · -- ge taken
                have c_322 := Int32.le_iff_toInt_le.mp c_322
                rw [nI_toInt (n := way) (by omega)] at c_322
                rw [nI_toInt (n := 24) (by omega)] at c_322
                refine lv_aload_n hx hb dL_holds_340 rfl (lv_at hl 1 rfl) ?_
                refine lv_aload hx hb dL_holds_341 (lv_at hl 5 rfl) ?_
                refine lv_aload hx hb dL_holds_343 (lv_at hl 6 rfl) ?_
                refine lv_aload hx hb dL_holds_345 (lv_at hl 7 rfl) ?_
                refine x_joinN (ls := ls) (D := D) (sa := sa) (A := A) (xa := y) (G := xGs (LG D sg) D y sg ta) (P := fun v_ => v_ < 3) (mpc := 370) (rest := [.ref (y 45 0), .ref (y 44 0), .ref (y 43 0), .ref (y 0 0)]) (fun H locs v_370 hW h_370 => ?_) (fun J370 => ?_)
                · try dsimp only at h_370
                  refine lv_iload hx hb dL_holds_370 (lv_at hl 11 rfl) ?_
                  refine xs_i (As := [.ref (y 0 0), .ref (y 43 0), .ref (y 44 0), .ref (y 45 0), .int (nI (v_370)), .int (nI (z))]) (rest := []) ⟨hx, hb, hml, hown, hts⟩ (c_L_isTold l hst0 D sa y sg ta hI hL hT v_370 z (by omega) (by omega)) (va_cwS 6 hts gL_holds_L_isTold rfl rfl rfl (by decide +kernel) ⟨Nat.le_of_ble_eq_true rfl, Nat.le_of_ble_eq_true rfl⟩) hW rfl rfl hl.1 (Nat.le_of_ble_eq_true rfl) dL_holds_372 ⟨by show 100 + 30 * k + 0 + 0 + 3 ≤ 2000; omega, by show 500 + 183 * k + 0 + 0 + 18 ≤ 12000; omega⟩ (fun r_372 xa1 G1 H locs hp hW => ?_)
                  obtain ⟨σ1, hI1, xb1, τ1, hag1, hu, hL1, hT1, hr_372⟩ := hp
                  have hu2 : G1 = _ := congrArg Prod.snd hu
                  subst hu2
                  have hu1 : xb1 = xa1 := (congrArg Prod.fst hu).symm
                  subst hu1
                  have hl : lv_has ls 12 [(0, .ref (b)), (1, .ref (xb1 0 0)), (2, .ref (xb1 40 0)), (3, .ref (xb1 41 0)), (4, .ref (xb1 42 0)), (5, .ref (xb1 43 0)), (6, .ref (xb1 44 0)), (7, .ref (xb1 45 0)), (8, .int (nI (1))), (9, .int (nI (k))), (10, .int (nI (way))), (11, .int (nI (z)))] := by rw [hag1 0 0 (by omega), hag1 40 0 (by omega), hag1 41 0 (by omega), hag1 42 0 (by omega), hag1 43 0 (by omega), hag1 44 0 (by omega), hag1 45 0 (by omega)]; exact hl
                  have hr_372 : r_372 = nI 1 := hr_372
                  subst hr_372
                  have hW : xW D sa A s xb1 (xGs (LG D σ1) D xb1 σ1 τ1) H locs := hW
                  refine lv_istore (lv' := [(8, .int (nI (1))), (0, .ref (b)), (1, .ref (xb1 0 0)), (2, .ref (xb1 40 0)), (3, .ref (xb1 41 0)), (4, .ref (xb1 42 0)), (5, .ref (xb1 43 0)), (6, .ref (xb1 44 0)), (7, .ref (xb1 45 0)), (9, .int (nI (k))), (10, .int (nI (way))), (11, .int (nI (z)))]) hx hb dL_holds_375 hl (by decide) rfl (fun ls hl => ?_)
                  have hl : lv_has ls 12 [(0, .ref (b)), (1, .ref (xb1 0 0)), (2, .ref (xb1 40 0)), (3, .ref (xb1 41 0)), (4, .ref (xb1 42 0)), (5, .ref (xb1 43 0)), (6, .ref (xb1 44 0)), (7, .ref (xb1 45 0)), (8, .int (nI (1))), (9, .int (nI (k))), (10, .int (nI (way))), (11, .int (nI (z)))] := lv_sub hl [1, 2, 3, 4, 5, 6, 7, 8, 0, 9, 10, 11] rfl
                  refine lv_iload hx hb dL_holds_377 (lv_at hl 8 rfl) ?_
                  refine lv_if_eq (tgt := 408) hx hb dL_holds_379 (by decide) (fun c_379 => ?_) (fun c_379 => ?_)
                  · -- eq taken
                    exact absurd c_379 (by decide)
                  · -- eq not
                    refine lv_aload_n hx hb dL_holds_382 rfl (lv_at hl 1 rfl) ?_
                    refine lv_aload_n hx hb dL_holds_383 rfl (lv_at hl 2 rfl) ?_
                    refine lv_aload_n hx hb dL_holds_384 rfl (lv_at hl 3 rfl) ?_
                    refine lv_aload hx hb dL_holds_385 (lv_at hl 4 rfl) ?_
                    refine lv_aload hx hb dL_holds_387 (lv_at hl 5 rfl) ?_
                    refine lv_aload hx hb dL_holds_389 (lv_at hl 6 rfl) ?_
                    refine lv_aload hx hb dL_holds_391 (lv_at hl 7 rfl) ?_
                    refine lv_iload hx hb dL_holds_393 (lv_at hl 11 rfl) ?_
                    refine lv_bipush (v := nI (7)) hx hb dL_holds_395 (by decide +kernel) ?_
                    refine lv_idiv hx hb dL_holds_397 (nI_ne0 (n := 7) (by omega) (by omega)) ?_
                    rw [pk_div (a := z) (d := 7) (by omega) (by omega) (by omega)]
                    refine xs_i (As := [.ref (xb1 0 0), .ref (xb1 40 0), .ref (xb1 41 0), .ref (xb1 42 0), .ref (xb1 43 0), .ref (xb1 44 0), .ref (xb1 45 0), .int (nI (z / 7))]) (rest := []) ⟨hx, hb, hml, hown, hts⟩ (c_L_isSame l hst0 D sa xb1 σ1 τ1 hI1 hL1 hT1 (z / 7) (by omega)) (va_cwS 8 hts gL_holds_L_isSame rfl rfl rfl (by decide +kernel) ⟨Nat.le_of_ble_eq_true rfl, Nat.le_of_ble_eq_true rfl⟩) hW rfl rfl hl.1 (Nat.le_of_ble_eq_true rfl) dL_holds_398 ⟨by show 100 + 30 * k + 0 + 0 + 3 + 24 ≤ 2000; omega, by show 500 + 183 * k + 0 + 0 + 18 + 144 ≤ 12000; omega⟩ (fun r_398 xa1 G1 H locs hp hW => ?_)
                    obtain ⟨xb2, τ2, hag2, hu, hL2, hT2, hr_398⟩ := hp
                    have hu2 : G1 = _ := congrArg Prod.snd hu
                    subst hu2
                    have hu1 : xb2 = xa1 := (congrArg Prod.fst hu).symm
                    subst hu1
                    have hl : lv_has ls 12 [(0, .ref (b)), (1, .ref (xb2 0 0)), (2, .ref (xb2 40 0)), (3, .ref (xb2 41 0)), (4, .ref (xb2 42 0)), (5, .ref (xb2 43 0)), (6, .ref (xb2 44 0)), (7, .ref (xb2 45 0)), (8, .int (nI (1))), (9, .int (nI (k))), (10, .int (nI (way))), (11, .int (nI (z)))] := by rw [hag2 0 0 (by omega), hag2 40 0 (by omega), hag2 41 0 (by omega), hag2 42 0 (by omega), hag2 43 0 (by omega), hag2 44 0 (by omega), hag2 45 0 (by omega)]; exact hl
                    have hr_398 : r_398 = nI 1 := hr_398
                    subst hr_398
                    have hW : xW D sa A s xb2 (xGs (LG D σ1) D xb2 σ1 τ2) H locs := hW
                    refine lv_if_eq (tgt := 408) hx hb dL_holds_401 (by decide) (fun c_401 => ?_) (fun c_401 => ?_)
                    · -- eq taken
                      exact absurd c_401 (by decide)
                    · -- eq not
                      refine lv_iconst (v := nI (1)) hx hb dL_holds_404 (by decide +kernel) ?_
                      refine lv_goto (tgt := 409) hx hb dL_holds_405 (by decide) ?_
                      refine lv_istore (lv' := [(8, .int (nI (1))), (0, .ref (b)), (1, .ref (xb2 0 0)), (2, .ref (xb2 40 0)), (3, .ref (xb2 41 0)), (4, .ref (xb2 42 0)), (5, .ref (xb2 43 0)), (6, .ref (xb2 44 0)), (7, .ref (xb2 45 0)), (9, .int (nI (k))), (10, .int (nI (way))), (11, .int (nI (z)))]) hx hb dL_holds_409 hl (by decide) rfl (fun ls hl => ?_)
                      have hl : lv_has ls 12 [(0, .ref (b)), (1, .ref (xb2 0 0)), (2, .ref (xb2 40 0)), (3, .ref (xb2 41 0)), (4, .ref (xb2 42 0)), (5, .ref (xb2 43 0)), (6, .ref (xb2 44 0)), (7, .ref (xb2 45 0)), (8, .int (nI (1))), (9, .int (nI (k))), (10, .int (nI (way))), (11, .int (nI (z)))] := lv_sub hl [1, 2, 3, 4, 5, 6, 7, 8, 0, 9, 10, 11] rfl
                      refine lv_iinc (v := nI (k + 1)) (lv' := [(9, .int (nI (k + 1))), (0, .ref (b)), (1, .ref (xb2 0 0)), (2, .ref (xb2 40 0)), (3, .ref (xb2 41 0)), (4, .ref (xb2 42 0)), (5, .ref (xb2 43 0)), (6, .ref (xb2 44 0)), (7, .ref (xb2 45 0)), (8, .int (nI (1))), (10, .int (nI (way))), (11, .int (nI (z)))]) hx hb dL_holds_411 hl (k := 9) rfl (x_inc k 1 rfl) (by decide) rfl (fun ls hl => ?_)
                      have hl : lv_has ls 12 [(0, .ref (b)), (1, .ref (xb2 0 0)), (2, .ref (xb2 40 0)), (3, .ref (xb2 41 0)), (4, .ref (xb2 42 0)), (5, .ref (xb2 43 0)), (6, .ref (xb2 44 0)), (7, .ref (xb2 45 0)), (8, .int (nI (1))), (9, .int (nI (k + 1))), (10, .int (nI (way))), (11, .int (nI (z)))] := lv_sub hl [1, 2, 3, 4, 5, 6, 7, 8, 9, 0, 10, 11] rfl
                      refine lv_goto (tgt := 204) hx hb dL_holds_414 (by decide) ?_
                      refine W.widen (k := 100 + 30 * (k + 1)) (n := 500 + 183 * (k + 1)) (by omega) (by omega) ?_
                      exact ih204 (60 - (k + 1)) (k + 1, σ1, τ2, xb2) _ _ _ (by omega) ⟨rfl, hW, lv_sub hl [0, 1, 2, 3, 4, 5, 6, 7, 8, 9] rfl, hI1, hL2, hT2, by (try dsimp only); omega⟩
                ·
                  refine lv_iload hx hb dL_holds_347 (lv_at hl 10 rfl) ?_
                  refine lv_bipush (v := nI (26)) hx hb dL_holds_349 (by decide +kernel) ?_
                  refine lv_icmp_ge (tgt := 358) hx hb dL_holds_351 (by decide) (fun c_351 => ?_) (fun c_351 => ?_)
                  · -- ge taken
                    have c_351 := Int32.le_iff_toInt_le.mp c_351
                    rw [nI_toInt (n := way) (by omega)] at c_351
                    rw [nI_toInt (n := 26) (by omega)] at c_351
                    refine lv_iload hx hb dL_holds_358 (lv_at hl 10 rfl) ?_
                    refine lv_bipush (v := nI (29)) hx hb dL_holds_360 (by decide +kernel) ?_
                    refine lv_icmp_ge (tgt := 369) hx hb dL_holds_362 (by decide) (fun c_362 => ?_) (fun c_362 => ?_)
                    · -- ge taken
                      have c_362 := Int32.le_iff_toInt_le.mp c_362
                      rw [nI_toInt (n := way) (by omega)] at c_362
                      rw [nI_toInt (n := 29) (by omega)] at c_362
                      refine lv_iconst (v := nI (2)) hx hb dL_holds_369 (by decide +kernel) ?_
                      exact J370 _ _ (2) hW (by omega)
                    · -- ge not
                      have c_362 : ¬ ((nI (29)).toInt ≤ (nI (way)).toInt) := fun h => c_362 (Int32.le_iff_toInt_le.mpr h)
                      rw [nI_toInt (n := way) (by omega)] at c_362
                      rw [nI_toInt (n := 29) (by omega)] at c_362
                      refine lv_iconst (v := nI (1)) hx hb dL_holds_365 (by decide +kernel) ?_
                      refine lv_goto (tgt := 370) hx hb dL_holds_366 (by decide) ?_
                      exact J370 _ _ (1) hW (by omega)
                  · -- ge not
                    have c_351 : ¬ ((nI (26)).toInt ≤ (nI (way)).toInt) := fun h => c_351 (Int32.le_iff_toInt_le.mpr h)
                    rw [nI_toInt (n := way) (by omega)] at c_351
                    rw [nI_toInt (n := 26) (by omega)] at c_351
                    refine lv_iconst (v := nI (0)) hx hb dL_holds_354 (by decide +kernel) ?_
                    refine lv_goto (tgt := 370) hx hb dL_holds_355 (by decide) ?_
                    exact J370 _ _ (0) hW (by omega)
              · -- ge not
                have c_322 : ¬ ((nI (24)).toInt ≤ (nI (way)).toInt) := fun h => c_322 (Int32.le_iff_toInt_le.mpr h)
                rw [nI_toInt (n := way) (by omega)] at c_322
                rw [nI_toInt (n := 24) (by omega)] at c_322
                refine lv_aload_n hx hb dL_holds_325 rfl (lv_at hl 1 rfl) ?_
                refine lv_aload hx hb dL_holds_326 (lv_at hl 6 rfl) ?_
                refine lv_aload hx hb dL_holds_328 (lv_at hl 7 rfl) ?_
                refine lv_iload hx hb dL_holds_330 (lv_at hl 11 rfl) ?_
                refine xs_i (As := [.ref (y 0 0), .ref (y 44 0), .ref (y 45 0), .int (nI (z))]) (rest := []) ⟨hx, hb, hml, hown, hts⟩ (c_L_isStation l hst0 D sa y sg ta hI hL hT z (by omega)) (va_cwS 4 hts gL_holds_L_isStation rfl rfl rfl (by decide +kernel) ⟨Nat.le_of_ble_eq_true rfl, Nat.le_of_ble_eq_true rfl⟩) hW rfl rfl hl.1 (Nat.le_of_ble_eq_true rfl) dL_holds_332 ⟨by show 100 + 30 * k + 0 + 0 + 6 ≤ 2000; omega, by show 500 + 183 * k + 0 + 0 + 39 ≤ 12000; omega⟩ (fun r_332 xa1 G1 H locs hp hW => ?_)
                obtain ⟨σ1, hI1, xb1, τ1, hag1, hu, hL1, hT1, hr_332⟩ := hp
                have hu2 : G1 = _ := congrArg Prod.snd hu
                subst hu2
                have hu1 : xb1 = xa1 := (congrArg Prod.fst hu).symm
                subst hu1
                have hl : lv_has ls 12 [(0, .ref (b)), (1, .ref (xb1 0 0)), (2, .ref (xb1 40 0)), (3, .ref (xb1 41 0)), (4, .ref (xb1 42 0)), (5, .ref (xb1 43 0)), (6, .ref (xb1 44 0)), (7, .ref (xb1 45 0)), (8, .int (nI (1))), (9, .int (nI (k))), (10, .int (nI (way))), (11, .int (nI (z)))] := by rw [hag1 0 0 (by omega), hag1 40 0 (by omega), hag1 41 0 (by omega), hag1 42 0 (by omega), hag1 43 0 (by omega), hag1 44 0 (by omega), hag1 45 0 (by omega)]; exact hl
                have hr_332 : r_332 = nI 1 := hr_332
                subst hr_332
                have hW : xW D sa A s xb1 (xGs (LG D σ1) D xb1 σ1 τ1) H locs := hW
                refine lv_istore (lv' := [(8, .int (nI (1))), (0, .ref (b)), (1, .ref (xb1 0 0)), (2, .ref (xb1 40 0)), (3, .ref (xb1 41 0)), (4, .ref (xb1 42 0)), (5, .ref (xb1 43 0)), (6, .ref (xb1 44 0)), (7, .ref (xb1 45 0)), (9, .int (nI (k))), (10, .int (nI (way))), (11, .int (nI (z)))]) hx hb dL_holds_335 hl (by decide) rfl (fun ls hl => ?_)
                have hl : lv_has ls 12 [(0, .ref (b)), (1, .ref (xb1 0 0)), (2, .ref (xb1 40 0)), (3, .ref (xb1 41 0)), (4, .ref (xb1 42 0)), (5, .ref (xb1 43 0)), (6, .ref (xb1 44 0)), (7, .ref (xb1 45 0)), (8, .int (nI (1))), (9, .int (nI (k))), (10, .int (nI (way))), (11, .int (nI (z)))] := lv_sub hl [1, 2, 3, 4, 5, 6, 7, 8, 0, 9, 10, 11] rfl
                refine lv_goto (tgt := 377) hx hb dL_holds_337 (by decide) ?_
                refine lv_iload hx hb dL_holds_377 (lv_at hl 8 rfl) ?_
                refine lv_if_eq (tgt := 408) hx hb dL_holds_379 (by decide) (fun c_379 => ?_) (fun c_379 => ?_)
                · -- eq taken
                  exact absurd c_379 (by decide)
                · -- eq not
                  refine lv_aload_n hx hb dL_holds_382 rfl (lv_at hl 1 rfl) ?_
                  refine lv_aload_n hx hb dL_holds_383 rfl (lv_at hl 2 rfl) ?_
                  refine lv_aload_n hx hb dL_holds_384 rfl (lv_at hl 3 rfl) ?_
                  refine lv_aload hx hb dL_holds_385 (lv_at hl 4 rfl) ?_
                  refine lv_aload hx hb dL_holds_387 (lv_at hl 5 rfl) ?_
                  refine lv_aload hx hb dL_holds_389 (lv_at hl 6 rfl) ?_
                  refine lv_aload hx hb dL_holds_391 (lv_at hl 7 rfl) ?_
                  refine lv_iload hx hb dL_holds_393 (lv_at hl 11 rfl) ?_
                  refine lv_bipush (v := nI (7)) hx hb dL_holds_395 (by decide +kernel) ?_
                  refine lv_idiv hx hb dL_holds_397 (nI_ne0 (n := 7) (by omega) (by omega)) ?_
                  rw [pk_div (a := z) (d := 7) (by omega) (by omega) (by omega)]
                  refine xs_i (As := [.ref (xb1 0 0), .ref (xb1 40 0), .ref (xb1 41 0), .ref (xb1 42 0), .ref (xb1 43 0), .ref (xb1 44 0), .ref (xb1 45 0), .int (nI (z / 7))]) (rest := []) ⟨hx, hb, hml, hown, hts⟩ (c_L_isSame l hst0 D sa xb1 σ1 τ1 hI1 hL1 hT1 (z / 7) (by omega)) (va_cwS 8 hts gL_holds_L_isSame rfl rfl rfl (by decide +kernel) ⟨Nat.le_of_ble_eq_true rfl, Nat.le_of_ble_eq_true rfl⟩) hW rfl rfl hl.1 (Nat.le_of_ble_eq_true rfl) dL_holds_398 ⟨by show 100 + 30 * k + 0 + 0 + 6 + 24 ≤ 2000; omega, by show 500 + 183 * k + 0 + 0 + 39 + 144 ≤ 12000; omega⟩ (fun r_398 xa1 G1 H locs hp hW => ?_)
                  obtain ⟨xb2, τ2, hag2, hu, hL2, hT2, hr_398⟩ := hp
                  have hu2 : G1 = _ := congrArg Prod.snd hu
                  subst hu2
                  have hu1 : xb2 = xa1 := (congrArg Prod.fst hu).symm
                  subst hu1
                  have hl : lv_has ls 12 [(0, .ref (b)), (1, .ref (xb2 0 0)), (2, .ref (xb2 40 0)), (3, .ref (xb2 41 0)), (4, .ref (xb2 42 0)), (5, .ref (xb2 43 0)), (6, .ref (xb2 44 0)), (7, .ref (xb2 45 0)), (8, .int (nI (1))), (9, .int (nI (k))), (10, .int (nI (way))), (11, .int (nI (z)))] := by rw [hag2 0 0 (by omega), hag2 40 0 (by omega), hag2 41 0 (by omega), hag2 42 0 (by omega), hag2 43 0 (by omega), hag2 44 0 (by omega), hag2 45 0 (by omega)]; exact hl
                  have hr_398 : r_398 = nI 1 := hr_398
                  subst hr_398
                  have hW : xW D sa A s xb2 (xGs (LG D σ1) D xb2 σ1 τ2) H locs := hW
                  refine lv_if_eq (tgt := 408) hx hb dL_holds_401 (by decide) (fun c_401 => ?_) (fun c_401 => ?_)
                  · -- eq taken
                    exact absurd c_401 (by decide)
                  · -- eq not
                    refine lv_iconst (v := nI (1)) hx hb dL_holds_404 (by decide +kernel) ?_
                    refine lv_goto (tgt := 409) hx hb dL_holds_405 (by decide) ?_
                    refine lv_istore (lv' := [(8, .int (nI (1))), (0, .ref (b)), (1, .ref (xb2 0 0)), (2, .ref (xb2 40 0)), (3, .ref (xb2 41 0)), (4, .ref (xb2 42 0)), (5, .ref (xb2 43 0)), (6, .ref (xb2 44 0)), (7, .ref (xb2 45 0)), (9, .int (nI (k))), (10, .int (nI (way))), (11, .int (nI (z)))]) hx hb dL_holds_409 hl (by decide) rfl (fun ls hl => ?_)
                    have hl : lv_has ls 12 [(0, .ref (b)), (1, .ref (xb2 0 0)), (2, .ref (xb2 40 0)), (3, .ref (xb2 41 0)), (4, .ref (xb2 42 0)), (5, .ref (xb2 43 0)), (6, .ref (xb2 44 0)), (7, .ref (xb2 45 0)), (8, .int (nI (1))), (9, .int (nI (k))), (10, .int (nI (way))), (11, .int (nI (z)))] := lv_sub hl [1, 2, 3, 4, 5, 6, 7, 8, 0, 9, 10, 11] rfl
                    refine lv_iinc (v := nI (k + 1)) (lv' := [(9, .int (nI (k + 1))), (0, .ref (b)), (1, .ref (xb2 0 0)), (2, .ref (xb2 40 0)), (3, .ref (xb2 41 0)), (4, .ref (xb2 42 0)), (5, .ref (xb2 43 0)), (6, .ref (xb2 44 0)), (7, .ref (xb2 45 0)), (8, .int (nI (1))), (10, .int (nI (way))), (11, .int (nI (z)))]) hx hb dL_holds_411 hl (k := 9) rfl (x_inc k 1 rfl) (by decide) rfl (fun ls hl => ?_)
                    have hl : lv_has ls 12 [(0, .ref (b)), (1, .ref (xb2 0 0)), (2, .ref (xb2 40 0)), (3, .ref (xb2 41 0)), (4, .ref (xb2 42 0)), (5, .ref (xb2 43 0)), (6, .ref (xb2 44 0)), (7, .ref (xb2 45 0)), (8, .int (nI (1))), (9, .int (nI (k + 1))), (10, .int (nI (way))), (11, .int (nI (z)))] := lv_sub hl [1, 2, 3, 4, 5, 6, 7, 8, 9, 0, 10, 11] rfl
                    refine lv_goto (tgt := 204) hx hb dL_holds_414 (by decide) ?_
                    refine W.widen (k := 100 + 30 * (k + 1)) (n := 500 + 183 * (k + 1)) (by omega) (by omega) ?_
                    exact ih204 (60 - (k + 1)) (k + 1, σ1, τ2, xb2) _ _ _ (by omega) ⟨rfl, hW, lv_sub hl [0, 1, 2, 3, 4, 5, 6, 7, 8, 9] rfl, hI1, hL2, hT2, by (try dsimp only); omega⟩
            · -- ge not
              have c_277 : ¬ ((nI (15)).toInt ≤ (nI (way)).toInt) := fun h => c_277 (Int32.le_iff_toInt_le.mpr h)
              rw [nI_toInt (n := way) (by omega)] at c_277
              rw [nI_toInt (n := 15) (by omega)] at c_277
              refine lv_aload_n hx hb dL_holds_280 rfl (lv_at hl 1 rfl) ?_
              refine lv_aload hx hb dL_holds_281 (lv_at hl 4 rfl) ?_
              refine lv_aload hx hb dL_holds_283 (lv_at hl 7 rfl) ?_
              refine x_joinN (ls := ls) (D := D) (sa := sa) (A := A) (xa := y) (G := xGs (LG D sg) D y sg ta) (P := fun v_ => v_ < 3) (mpc := 308) (rest := [.ref (y 45 0), .ref (y 42 0), .ref (y 0 0)]) (fun H locs v_308 hW h_308 => ?_) (fun J308 => ?_)
              · try dsimp only at h_308
                refine lv_iload hx hb dL_holds_308 (lv_at hl 11 rfl) ?_
                refine xs_i (As := [.ref (y 0 0), .ref (y 42 0), .ref (y 45 0), .int (nI (v_308)), .int (nI (z))]) (rest := []) ⟨hx, hb, hml, hown, hts⟩ (c_L_isLaw l hst0 D sa y sg ta hI hL hT v_308 z (by omega) (by omega)) (va_cwS 5 hts gL_holds_L_isLaw rfl rfl rfl (by decide +kernel) ⟨Nat.le_of_ble_eq_true rfl, Nat.le_of_ble_eq_true rfl⟩) hW rfl rfl hl.1 (Nat.le_of_ble_eq_true rfl) dL_holds_310 ⟨by show 100 + 30 * k + 0 + 0 + 5 ≤ 2000; omega, by show 500 + 183 * k + 0 + 0 + 30 ≤ 12000; omega⟩ (fun r_310 xa1 G1 H locs hp hW => ?_)
                obtain ⟨σ1, hI1, xb1, τ1, hag1, hu, hL1, hT1, hr_310⟩ := hp
                have hu2 : G1 = _ := congrArg Prod.snd hu
                subst hu2
                have hu1 : xb1 = xa1 := (congrArg Prod.fst hu).symm
                subst hu1
                have hl : lv_has ls 12 [(0, .ref (b)), (1, .ref (xb1 0 0)), (2, .ref (xb1 40 0)), (3, .ref (xb1 41 0)), (4, .ref (xb1 42 0)), (5, .ref (xb1 43 0)), (6, .ref (xb1 44 0)), (7, .ref (xb1 45 0)), (8, .int (nI (1))), (9, .int (nI (k))), (10, .int (nI (way))), (11, .int (nI (z)))] := by rw [hag1 0 0 (by omega), hag1 40 0 (by omega), hag1 41 0 (by omega), hag1 42 0 (by omega), hag1 43 0 (by omega), hag1 44 0 (by omega), hag1 45 0 (by omega)]; exact hl
                have hr_310 : r_310 = nI 1 := hr_310
                subst hr_310
                have hW : xW D sa A s xb1 (xGs (LG D σ1) D xb1 σ1 τ1) H locs := hW
                refine lv_istore (lv' := [(8, .int (nI (1))), (0, .ref (b)), (1, .ref (xb1 0 0)), (2, .ref (xb1 40 0)), (3, .ref (xb1 41 0)), (4, .ref (xb1 42 0)), (5, .ref (xb1 43 0)), (6, .ref (xb1 44 0)), (7, .ref (xb1 45 0)), (9, .int (nI (k))), (10, .int (nI (way))), (11, .int (nI (z)))]) hx hb dL_holds_313 hl (by decide) rfl (fun ls hl => ?_)
                have hl : lv_has ls 12 [(0, .ref (b)), (1, .ref (xb1 0 0)), (2, .ref (xb1 40 0)), (3, .ref (xb1 41 0)), (4, .ref (xb1 42 0)), (5, .ref (xb1 43 0)), (6, .ref (xb1 44 0)), (7, .ref (xb1 45 0)), (8, .int (nI (1))), (9, .int (nI (k))), (10, .int (nI (way))), (11, .int (nI (z)))] := lv_sub hl [1, 2, 3, 4, 5, 6, 7, 8, 0, 9, 10, 11] rfl
                refine lv_goto (tgt := 377) hx hb dL_holds_315 (by decide) ?_
                refine lv_iload hx hb dL_holds_377 (lv_at hl 8 rfl) ?_
                refine lv_if_eq (tgt := 408) hx hb dL_holds_379 (by decide) (fun c_379 => ?_) (fun c_379 => ?_)
                · -- eq taken
                  exact absurd c_379 (by decide)
                · -- eq not
                  refine lv_aload_n hx hb dL_holds_382 rfl (lv_at hl 1 rfl) ?_
                  refine lv_aload_n hx hb dL_holds_383 rfl (lv_at hl 2 rfl) ?_
                  refine lv_aload_n hx hb dL_holds_384 rfl (lv_at hl 3 rfl) ?_
                  refine lv_aload hx hb dL_holds_385 (lv_at hl 4 rfl) ?_
                  refine lv_aload hx hb dL_holds_387 (lv_at hl 5 rfl) ?_
                  refine lv_aload hx hb dL_holds_389 (lv_at hl 6 rfl) ?_
                  refine lv_aload hx hb dL_holds_391 (lv_at hl 7 rfl) ?_
                  refine lv_iload hx hb dL_holds_393 (lv_at hl 11 rfl) ?_
                  refine lv_bipush (v := nI (7)) hx hb dL_holds_395 (by decide +kernel) ?_
                  refine lv_idiv hx hb dL_holds_397 (nI_ne0 (n := 7) (by omega) (by omega)) ?_
                  rw [pk_div (a := z) (d := 7) (by omega) (by omega) (by omega)]
                  refine xs_i (As := [.ref (xb1 0 0), .ref (xb1 40 0), .ref (xb1 41 0), .ref (xb1 42 0), .ref (xb1 43 0), .ref (xb1 44 0), .ref (xb1 45 0), .int (nI (z / 7))]) (rest := []) ⟨hx, hb, hml, hown, hts⟩ (c_L_isSame l hst0 D sa xb1 σ1 τ1 hI1 hL1 hT1 (z / 7) (by omega)) (va_cwS 8 hts gL_holds_L_isSame rfl rfl rfl (by decide +kernel) ⟨Nat.le_of_ble_eq_true rfl, Nat.le_of_ble_eq_true rfl⟩) hW rfl rfl hl.1 (Nat.le_of_ble_eq_true rfl) dL_holds_398 ⟨by show 100 + 30 * k + 0 + 0 + 5 + 24 ≤ 2000; omega, by show 500 + 183 * k + 0 + 0 + 30 + 144 ≤ 12000; omega⟩ (fun r_398 xa1 G1 H locs hp hW => ?_)
                  obtain ⟨xb2, τ2, hag2, hu, hL2, hT2, hr_398⟩ := hp
                  have hu2 : G1 = _ := congrArg Prod.snd hu
                  subst hu2
                  have hu1 : xb2 = xa1 := (congrArg Prod.fst hu).symm
                  subst hu1
                  have hl : lv_has ls 12 [(0, .ref (b)), (1, .ref (xb2 0 0)), (2, .ref (xb2 40 0)), (3, .ref (xb2 41 0)), (4, .ref (xb2 42 0)), (5, .ref (xb2 43 0)), (6, .ref (xb2 44 0)), (7, .ref (xb2 45 0)), (8, .int (nI (1))), (9, .int (nI (k))), (10, .int (nI (way))), (11, .int (nI (z)))] := by rw [hag2 0 0 (by omega), hag2 40 0 (by omega), hag2 41 0 (by omega), hag2 42 0 (by omega), hag2 43 0 (by omega), hag2 44 0 (by omega), hag2 45 0 (by omega)]; exact hl
                  have hr_398 : r_398 = nI 1 := hr_398
                  subst hr_398
                  have hW : xW D sa A s xb2 (xGs (LG D σ1) D xb2 σ1 τ2) H locs := hW
                  refine lv_if_eq (tgt := 408) hx hb dL_holds_401 (by decide) (fun c_401 => ?_) (fun c_401 => ?_)
                  · -- eq taken
                    exact absurd c_401 (by decide)
                  · -- eq not
                    refine lv_iconst (v := nI (1)) hx hb dL_holds_404 (by decide +kernel) ?_
                    refine lv_goto (tgt := 409) hx hb dL_holds_405 (by decide) ?_
                    refine lv_istore (lv' := [(8, .int (nI (1))), (0, .ref (b)), (1, .ref (xb2 0 0)), (2, .ref (xb2 40 0)), (3, .ref (xb2 41 0)), (4, .ref (xb2 42 0)), (5, .ref (xb2 43 0)), (6, .ref (xb2 44 0)), (7, .ref (xb2 45 0)), (9, .int (nI (k))), (10, .int (nI (way))), (11, .int (nI (z)))]) hx hb dL_holds_409 hl (by decide) rfl (fun ls hl => ?_)
                    have hl : lv_has ls 12 [(0, .ref (b)), (1, .ref (xb2 0 0)), (2, .ref (xb2 40 0)), (3, .ref (xb2 41 0)), (4, .ref (xb2 42 0)), (5, .ref (xb2 43 0)), (6, .ref (xb2 44 0)), (7, .ref (xb2 45 0)), (8, .int (nI (1))), (9, .int (nI (k))), (10, .int (nI (way))), (11, .int (nI (z)))] := lv_sub hl [1, 2, 3, 4, 5, 6, 7, 8, 0, 9, 10, 11] rfl
                    refine lv_iinc (v := nI (k + 1)) (lv' := [(9, .int (nI (k + 1))), (0, .ref (b)), (1, .ref (xb2 0 0)), (2, .ref (xb2 40 0)), (3, .ref (xb2 41 0)), (4, .ref (xb2 42 0)), (5, .ref (xb2 43 0)), (6, .ref (xb2 44 0)), (7, .ref (xb2 45 0)), (8, .int (nI (1))), (10, .int (nI (way))), (11, .int (nI (z)))]) hx hb dL_holds_411 hl (k := 9) rfl (x_inc k 1 rfl) (by decide) rfl (fun ls hl => ?_)
                    have hl : lv_has ls 12 [(0, .ref (b)), (1, .ref (xb2 0 0)), (2, .ref (xb2 40 0)), (3, .ref (xb2 41 0)), (4, .ref (xb2 42 0)), (5, .ref (xb2 43 0)), (6, .ref (xb2 44 0)), (7, .ref (xb2 45 0)), (8, .int (nI (1))), (9, .int (nI (k + 1))), (10, .int (nI (way))), (11, .int (nI (z)))] := lv_sub hl [1, 2, 3, 4, 5, 6, 7, 8, 9, 0, 10, 11] rfl
                    refine lv_goto (tgt := 204) hx hb dL_holds_414 (by decide) ?_
                    refine W.widen (k := 100 + 30 * (k + 1)) (n := 500 + 183 * (k + 1)) (by omega) (by omega) ?_
                    exact ih204 (60 - (k + 1)) (k + 1, σ1, τ2, xb2) _ _ _ (by omega) ⟨rfl, hW, lv_sub hl [0, 1, 2, 3, 4, 5, 6, 7, 8, 9] rfl, hI1, hL2, hT2, by (try dsimp only); omega⟩
              ·
                refine lv_iload hx hb dL_holds_285 (lv_at hl 10 rfl) ?_
                refine lv_bipush (v := nI (10)) hx hb dL_holds_287 (by decide +kernel) ?_
                refine lv_icmp_ge (tgt := 296) hx hb dL_holds_289 (by decide) (fun c_289 => ?_) (fun c_289 => ?_)
                · -- ge taken
                  have c_289 := Int32.le_iff_toInt_le.mp c_289
                  rw [nI_toInt (n := way) (by omega)] at c_289
                  rw [nI_toInt (n := 10) (by omega)] at c_289
                  refine lv_iload hx hb dL_holds_296 (lv_at hl 10 rfl) ?_
                  refine lv_bipush (v := nI (12)) hx hb dL_holds_298 (by decide +kernel) ?_
                  refine lv_icmp_ge (tgt := 307) hx hb dL_holds_300 (by decide) (fun c_300 => ?_) (fun c_300 => ?_)
                  · -- ge taken
                    have c_300 := Int32.le_iff_toInt_le.mp c_300
                    rw [nI_toInt (n := way) (by omega)] at c_300
                    rw [nI_toInt (n := 12) (by omega)] at c_300
                    refine lv_iconst (v := nI (2)) hx hb dL_holds_307 (by decide +kernel) ?_
                    exact J308 _ _ (2) hW (by omega)
                  · -- ge not
                    have c_300 : ¬ ((nI (12)).toInt ≤ (nI (way)).toInt) := fun h => c_300 (Int32.le_iff_toInt_le.mpr h)
                    rw [nI_toInt (n := way) (by omega)] at c_300
                    rw [nI_toInt (n := 12) (by omega)] at c_300
                    refine lv_iconst (v := nI (1)) hx hb dL_holds_303 (by decide +kernel) ?_
                    refine lv_goto (tgt := 308) hx hb dL_holds_304 (by decide) ?_
                    exact J308 _ _ (1) hW (by omega)
                · -- ge not
                  have c_289 : ¬ ((nI (10)).toInt ≤ (nI (way)).toInt) := fun h => c_289 (Int32.le_iff_toInt_le.mpr h)
                  rw [nI_toInt (n := way) (by omega)] at c_289
                  rw [nI_toInt (n := 10) (by omega)] at c_289
                  refine lv_iconst (v := nI (0)) hx hb dL_holds_292 (by decide +kernel) ?_
                  refine lv_goto (tgt := 308) hx hb dL_holds_293 (by decide) ?_
                  exact J308 _ _ (0) hW (by omega)
          · -- ge not
            have c_246 : ¬ ((nI (7)).toInt ≤ (nI (way)).toInt) := fun h => c_246 (Int32.le_iff_toInt_le.mpr h)
            rw [nI_toInt (n := way) (by omega)] at c_246
            rw [nI_toInt (n := 7) (by omega)] at c_246
            refine lv_aload_n hx hb dL_holds_249 rfl (lv_at hl 1 rfl) ?_
            refine lv_aload_n hx hb dL_holds_250 rfl (lv_at hl 2 rfl) ?_
            refine lv_aload_n hx hb dL_holds_251 rfl (lv_at hl 3 rfl) ?_
            refine x_joinN (ls := ls) (D := D) (sa := sa) (A := A) (xa := y) (G := xGs (LG D sg) D y sg ta) (P := fun v_ => v_ < 2) (mpc := 263) (rest := [.ref (y 41 0), .ref (y 40 0), .ref (y 0 0)]) (fun H locs v_263 hW h_263 => ?_) (fun J263 => ?_)
            · try dsimp only at h_263
              refine lv_iload hx hb dL_holds_263 (lv_at hl 11 rfl) ?_
              refine xs_i (As := [.ref (y 0 0), .ref (y 40 0), .ref (y 41 0), .int (nI (v_263)), .int (nI (z))]) (rest := []) ⟨hx, hb, hml, hown, hts⟩ (c_L_isPerson l hst0 D sa y sg ta hI hL hT v_263 z (by omega) (by omega)) (va_cwS 5 hts gL_holds_L_isPerson rfl rfl rfl (by decide +kernel) ⟨Nat.le_of_ble_eq_true rfl, Nat.le_of_ble_eq_true rfl⟩) hW rfl rfl hl.1 (Nat.le_of_ble_eq_true rfl) dL_holds_265 ⟨by show 100 + 30 * k + 0 + 0 + 5 ≤ 2000; omega, by show 500 + 183 * k + 0 + 0 + 30 ≤ 12000; omega⟩ (fun r_265 xa1 G1 H locs hp hW => ?_)
              obtain ⟨σ1, hI1, xb1, τ1, hag1, hu, hL1, hT1, hr_265⟩ := hp
              have hu2 : G1 = _ := congrArg Prod.snd hu
              subst hu2
              have hu1 : xb1 = xa1 := (congrArg Prod.fst hu).symm
              subst hu1
              have hl : lv_has ls 12 [(0, .ref (b)), (1, .ref (xb1 0 0)), (2, .ref (xb1 40 0)), (3, .ref (xb1 41 0)), (4, .ref (xb1 42 0)), (5, .ref (xb1 43 0)), (6, .ref (xb1 44 0)), (7, .ref (xb1 45 0)), (8, .int (nI (1))), (9, .int (nI (k))), (10, .int (nI (way))), (11, .int (nI (z)))] := by rw [hag1 0 0 (by omega), hag1 40 0 (by omega), hag1 41 0 (by omega), hag1 42 0 (by omega), hag1 43 0 (by omega), hag1 44 0 (by omega), hag1 45 0 (by omega)]; exact hl
              have hr_265 : r_265 = nI 1 := hr_265
              subst hr_265
              have hW : xW D sa A s xb1 (xGs (LG D σ1) D xb1 σ1 τ1) H locs := hW
              refine lv_istore (lv' := [(8, .int (nI (1))), (0, .ref (b)), (1, .ref (xb1 0 0)), (2, .ref (xb1 40 0)), (3, .ref (xb1 41 0)), (4, .ref (xb1 42 0)), (5, .ref (xb1 43 0)), (6, .ref (xb1 44 0)), (7, .ref (xb1 45 0)), (9, .int (nI (k))), (10, .int (nI (way))), (11, .int (nI (z)))]) hx hb dL_holds_268 hl (by decide) rfl (fun ls hl => ?_)
              have hl : lv_has ls 12 [(0, .ref (b)), (1, .ref (xb1 0 0)), (2, .ref (xb1 40 0)), (3, .ref (xb1 41 0)), (4, .ref (xb1 42 0)), (5, .ref (xb1 43 0)), (6, .ref (xb1 44 0)), (7, .ref (xb1 45 0)), (8, .int (nI (1))), (9, .int (nI (k))), (10, .int (nI (way))), (11, .int (nI (z)))] := lv_sub hl [1, 2, 3, 4, 5, 6, 7, 8, 0, 9, 10, 11] rfl
              refine lv_goto (tgt := 377) hx hb dL_holds_270 (by decide) ?_
              refine lv_iload hx hb dL_holds_377 (lv_at hl 8 rfl) ?_
              refine lv_if_eq (tgt := 408) hx hb dL_holds_379 (by decide) (fun c_379 => ?_) (fun c_379 => ?_)
              · -- eq taken
                exact absurd c_379 (by decide)
              · -- eq not
                refine lv_aload_n hx hb dL_holds_382 rfl (lv_at hl 1 rfl) ?_
                refine lv_aload_n hx hb dL_holds_383 rfl (lv_at hl 2 rfl) ?_
                refine lv_aload_n hx hb dL_holds_384 rfl (lv_at hl 3 rfl) ?_
                refine lv_aload hx hb dL_holds_385 (lv_at hl 4 rfl) ?_
                refine lv_aload hx hb dL_holds_387 (lv_at hl 5 rfl) ?_
                refine lv_aload hx hb dL_holds_389 (lv_at hl 6 rfl) ?_
                refine lv_aload hx hb dL_holds_391 (lv_at hl 7 rfl) ?_
                refine lv_iload hx hb dL_holds_393 (lv_at hl 11 rfl) ?_
                refine lv_bipush (v := nI (7)) hx hb dL_holds_395 (by decide +kernel) ?_
                refine lv_idiv hx hb dL_holds_397 (nI_ne0 (n := 7) (by omega) (by omega)) ?_
                rw [pk_div (a := z) (d := 7) (by omega) (by omega) (by omega)]
                refine xs_i (As := [.ref (xb1 0 0), .ref (xb1 40 0), .ref (xb1 41 0), .ref (xb1 42 0), .ref (xb1 43 0), .ref (xb1 44 0), .ref (xb1 45 0), .int (nI (z / 7))]) (rest := []) ⟨hx, hb, hml, hown, hts⟩ (c_L_isSame l hst0 D sa xb1 σ1 τ1 hI1 hL1 hT1 (z / 7) (by omega)) (va_cwS 8 hts gL_holds_L_isSame rfl rfl rfl (by decide +kernel) ⟨Nat.le_of_ble_eq_true rfl, Nat.le_of_ble_eq_true rfl⟩) hW rfl rfl hl.1 (Nat.le_of_ble_eq_true rfl) dL_holds_398 ⟨by show 100 + 30 * k + 0 + 0 + 5 + 24 ≤ 2000; omega, by show 500 + 183 * k + 0 + 0 + 30 + 144 ≤ 12000; omega⟩ (fun r_398 xa1 G1 H locs hp hW => ?_)
                obtain ⟨xb2, τ2, hag2, hu, hL2, hT2, hr_398⟩ := hp
                have hu2 : G1 = _ := congrArg Prod.snd hu
                subst hu2
                have hu1 : xb2 = xa1 := (congrArg Prod.fst hu).symm
                subst hu1
                have hl : lv_has ls 12 [(0, .ref (b)), (1, .ref (xb2 0 0)), (2, .ref (xb2 40 0)), (3, .ref (xb2 41 0)), (4, .ref (xb2 42 0)), (5, .ref (xb2 43 0)), (6, .ref (xb2 44 0)), (7, .ref (xb2 45 0)), (8, .int (nI (1))), (9, .int (nI (k))), (10, .int (nI (way))), (11, .int (nI (z)))] := by rw [hag2 0 0 (by omega), hag2 40 0 (by omega), hag2 41 0 (by omega), hag2 42 0 (by omega), hag2 43 0 (by omega), hag2 44 0 (by omega), hag2 45 0 (by omega)]; exact hl
                have hr_398 : r_398 = nI 1 := hr_398
                subst hr_398
                have hW : xW D sa A s xb2 (xGs (LG D σ1) D xb2 σ1 τ2) H locs := hW
                refine lv_if_eq (tgt := 408) hx hb dL_holds_401 (by decide) (fun c_401 => ?_) (fun c_401 => ?_)
                · -- eq taken
                  exact absurd c_401 (by decide)
                · -- eq not
                  refine lv_iconst (v := nI (1)) hx hb dL_holds_404 (by decide +kernel) ?_
                  refine lv_goto (tgt := 409) hx hb dL_holds_405 (by decide) ?_
                  refine lv_istore (lv' := [(8, .int (nI (1))), (0, .ref (b)), (1, .ref (xb2 0 0)), (2, .ref (xb2 40 0)), (3, .ref (xb2 41 0)), (4, .ref (xb2 42 0)), (5, .ref (xb2 43 0)), (6, .ref (xb2 44 0)), (7, .ref (xb2 45 0)), (9, .int (nI (k))), (10, .int (nI (way))), (11, .int (nI (z)))]) hx hb dL_holds_409 hl (by decide) rfl (fun ls hl => ?_)
                  have hl : lv_has ls 12 [(0, .ref (b)), (1, .ref (xb2 0 0)), (2, .ref (xb2 40 0)), (3, .ref (xb2 41 0)), (4, .ref (xb2 42 0)), (5, .ref (xb2 43 0)), (6, .ref (xb2 44 0)), (7, .ref (xb2 45 0)), (8, .int (nI (1))), (9, .int (nI (k))), (10, .int (nI (way))), (11, .int (nI (z)))] := lv_sub hl [1, 2, 3, 4, 5, 6, 7, 8, 0, 9, 10, 11] rfl
                  refine lv_iinc (v := nI (k + 1)) (lv' := [(9, .int (nI (k + 1))), (0, .ref (b)), (1, .ref (xb2 0 0)), (2, .ref (xb2 40 0)), (3, .ref (xb2 41 0)), (4, .ref (xb2 42 0)), (5, .ref (xb2 43 0)), (6, .ref (xb2 44 0)), (7, .ref (xb2 45 0)), (8, .int (nI (1))), (10, .int (nI (way))), (11, .int (nI (z)))]) hx hb dL_holds_411 hl (k := 9) rfl (x_inc k 1 rfl) (by decide) rfl (fun ls hl => ?_)
                  have hl : lv_has ls 12 [(0, .ref (b)), (1, .ref (xb2 0 0)), (2, .ref (xb2 40 0)), (3, .ref (xb2 41 0)), (4, .ref (xb2 42 0)), (5, .ref (xb2 43 0)), (6, .ref (xb2 44 0)), (7, .ref (xb2 45 0)), (8, .int (nI (1))), (9, .int (nI (k + 1))), (10, .int (nI (way))), (11, .int (nI (z)))] := lv_sub hl [1, 2, 3, 4, 5, 6, 7, 8, 9, 0, 10, 11] rfl
                  refine lv_goto (tgt := 204) hx hb dL_holds_414 (by decide) ?_
                  refine W.widen (k := 100 + 30 * (k + 1)) (n := 500 + 183 * (k + 1)) (by omega) (by omega) ?_
                  exact ih204 (60 - (k + 1)) (k + 1, σ1, τ2, xb2) _ _ _ (by omega) ⟨rfl, hW, lv_sub hl [0, 1, 2, 3, 4, 5, 6, 7, 8, 9] rfl, hI1, hL2, hT2, by (try dsimp only); omega⟩
            ·
              refine lv_iload hx hb dL_holds_252 (lv_at hl 10 rfl) ?_
              refine lv_iconst (v := nI (2)) hx hb dL_holds_254 (by decide +kernel) ?_
              refine lv_icmp_ge (tgt := 262) hx hb dL_holds_255 (by decide) (fun c_255 => ?_) (fun c_255 => ?_)
              · -- ge taken
                have c_255 := Int32.le_iff_toInt_le.mp c_255
                rw [nI_toInt (n := way) (by omega)] at c_255
                rw [nI_toInt (n := 2) (by omega)] at c_255
                refine lv_iconst (v := nI (1)) hx hb dL_holds_262 (by decide +kernel) ?_
                exact J263 _ _ (1) hW (by omega)
              · -- ge not
                have c_255 : ¬ ((nI (2)).toInt ≤ (nI (way)).toInt) := fun h => c_255 (Int32.le_iff_toInt_le.mpr h)
                rw [nI_toInt (n := way) (by omega)] at c_255
                rw [nI_toInt (n := 2) (by omega)] at c_255
                refine lv_iconst (v := nI (0)) hx hb dL_holds_258 (by decide +kernel) ?_
                refine lv_goto (tgt := 263) hx hb dL_holds_259 (by decide) ?_
                exact J263 _ _ (0) hW (by omega)
    · -- ge not
      have c_114 : ¬ ((nI (3)).toInt ≤ (nI (k)).toInt) := fun h => c_114 (Int32.le_iff_toInt_le.mpr h)
      rw [nI_toInt (n := k) (by omega)] at c_114
      rw [nI_toInt (n := 3) (by omega)] at c_114
      refine lv_iload hx hb dL_holds_117 (lv_at hl 8 rfl) ?_
      refine lv_if_eq (tgt := 201) hx hb dL_holds_119 (by decide) (fun c_119 => ?_) (fun c_119 => ?_)
      · -- eq taken
        exact absurd c_119 (by decide)
      · -- eq not
        refine lv_aload hx hb dL_holds_122 (lv_at hl 5 rfl) ?_
        refine lv_iconst (v := nI (2)) hx hb dL_holds_124 (by decide +kernel) ?_
        refine lv_iload hx hb dL_holds_125 (lv_at hl 9 rfl) ?_
        refine lv_imul hx hb dL_holds_127 ?_
        rw [pk_mul]
        refine lv_aload_n hx hb dL_holds_128 rfl (lv_at hl 0 rfl) ?_
        refine lv_sipush (v := nI (310)) hx hb dL_holds_129 (by decide +kernel) ?_
        refine lv_iload hx hb dL_holds_132 (lv_at hl 9 rfl) ?_
        refine lv_iadd hx hb dL_holds_134 ?_
        rw [nI_add]
        refine lv_ldc (v := nI 65536) hx hb hown (hts (.constant RL 115 (65536)) (by decide +kernel)) dL_holds_135 ?_
        refine xs_z (As := [.ref (b), .int (nI (310 + k)), .int (nI (65536))]) (rest := [.int (nI (2 * k)), .ref (y 43 0)]) ⟨hx, hb, hml, hown, hts⟩ (c_L_from l hst0 D sa y (xGs (LG D sg) D y sg ta) b L xs hLL (310 + k) (65536) (by omega) (by omega) (by omega)) (va_cwS 3 hts gL_holds_L_from rfl rfl rfl (by decide +kernel) ⟨Nat.le_of_ble_eq_true rfl, Nat.le_of_ble_eq_true rfl⟩) hX hbl hbA hW rfl rfl hl.1 (Nat.le_of_ble_eq_true rfl) dL_holds_137 ⟨by show 50 + 4 * k + 0 ≤ 2000; omega, by show 400 + 26 * k + 0 ≤ 12000; omega⟩ (fun r_137 xa1 G1 H locs hp hW => ?_)
        obtain ⟨hu, v1, hv1, hr_137⟩ := hp
        cases hu
        subst hr_137
        refine x_ist hx hb hW 43 0 (LA_43 LA_x) (2 * k) rfl (by omega) (by omega) dL_holds_140 fun H locs hW => ?_
        have hW : xW D sa A s y (xGs (LGf D (pf sg) (hf sg) (wf sg) (upd (tf sg) (2 * k) (nI (v1))) (cf sg) (mf sg)) D y sg ta) H locs := hW.eqG (LG_up (by omega) (LG_t _)).symm
        refine lv_aload hx hb dL_holds_141 (lv_at hl 5 rfl) ?_
        refine lv_iconst (v := nI (2)) hx hb dL_holds_143 (by decide +kernel) ?_
        refine lv_iload hx hb dL_holds_144 (lv_at hl 9 rfl) ?_
        refine lv_imul hx hb dL_holds_146 ?_
        rw [pk_mul]
        refine lv_iconst (v := nI (1)) hx hb dL_holds_147 (by decide +kernel) ?_
        refine lv_iadd hx hb dL_holds_148 ?_
        rw [nI_add]
        refine lv_aload_n hx hb dL_holds_149 rfl (lv_at hl 0 rfl) ?_
        refine lv_sipush (v := nI (320)) hx hb dL_holds_150 (by decide +kernel) ?_
        refine lv_iload hx hb dL_holds_153 (lv_at hl 9 rfl) ?_
        refine lv_iadd hx hb dL_holds_155 ?_
        rw [nI_add]
        refine lv_sipush (v := nI (1001)) hx hb dL_holds_156 (by decide +kernel) ?_
        refine xs_z (As := [.ref (b), .int (nI (320 + k)), .int (nI (1001))]) (rest := [.int (nI (2 * k + 1)), .ref (y 43 0)]) ⟨hx, hb, hml, hown, hts⟩ (c_L_from l hst0 D sa y (xGs (LGf D (pf sg) (hf sg) (wf sg) (upd (tf sg) (2 * k) (nI (v1))) (cf sg) (mf sg)) D y sg ta) b L xs hLL (320 + k) (1001) (by omega) (by omega) (by omega)) (va_cwS 3 hts gL_holds_L_from rfl rfl rfl (by decide +kernel) ⟨Nat.le_of_ble_eq_true rfl, Nat.le_of_ble_eq_true rfl⟩) hX hbl hbA hW rfl rfl hl.1 (Nat.le_of_ble_eq_true rfl) dL_holds_159 ⟨by show 50 + 4 * k + 0 + 0 ≤ 2000; omega, by show 400 + 26 * k + 0 + 0 ≤ 12000; omega⟩ (fun r_159 xa1 G1 H locs hp hW => ?_)
        obtain ⟨hu, v2, hv2, hr_159⟩ := hp
        cases hu
        subst hr_159
        refine x_ist hx hb hW 43 0 (LA_43 LA_x) (2 * k + 1) rfl (by omega) (by omega) dL_holds_162 fun H locs hW => ?_
        have hW : xW D sa A s y (xGs (LGf D (pf sg) (hf sg) (wf sg) (upd (upd (tf sg) (2 * k) (nI (v1))) (2 * k + 1) (nI (v2))) (cf sg) (mf sg)) D y sg ta) H locs := hW.eqG (LG_up (by omega) (LG_t _)).symm
        refine lv_aload_n hx hb dL_holds_163 rfl (lv_at hl 1 rfl) ?_
        refine lv_aload hx hb dL_holds_164 (lv_at hl 5 rfl) ?_
        refine lv_iconst (v := nI (2)) hx hb dL_holds_166 (by decide +kernel) ?_
        refine lv_iload hx hb dL_holds_167 (lv_at hl 9 rfl) ?_
        refine lv_imul hx hb dL_holds_169 ?_
        rw [pk_mul]
        refine x_ild hx hb hW 43 0 (LA_43 LA_x) (2 * k) rfl (by omega) (by omega) (v := nI (v1)) ((pk_un (by omega)).trans (pk_us)) dL_holds_170 ?_
        refine lv_aload hx hb dL_holds_171 (lv_at hl 5 rfl) ?_
        refine lv_iconst (v := nI (2)) hx hb dL_holds_173 (by decide +kernel) ?_
        refine lv_iload hx hb dL_holds_174 (lv_at hl 9 rfl) ?_
        refine lv_imul hx hb dL_holds_176 ?_
        rw [pk_mul]
        refine lv_iconst (v := nI (1)) hx hb dL_holds_177 (by decide +kernel) ?_
        refine lv_iadd hx hb dL_holds_178 ?_
        rw [nI_add]
        refine x_ild hx hb hW 43 0 (LA_43 LA_x) (2 * k + 1) rfl (by omega) (by omega) (v := nI (v2)) (pk_us) dL_holds_179 ?_
        refine yg_i (k := 0) (i := 0) (As := [.int (nI (v1)), .int (nI (v2))]) (rest := []) ⟨hx, hb, hml, hown, hts⟩ (c_X4_thing l hst0 D sa y (LGf D (pf sg) (hf sg) (wf sg) (upd (upd (tf sg) (2 * k) (nI (v1))) (2 * k + 1) (nI (v2))) (cf sg) (mf sg)) sg ta hg hL hT (nI (v1)) (nI (v2))) (fun E => pxk_no ⟨rg_of (n := v1) (by omega) (by omega) (by omega), rg_of (n := v2) (by omega) (by omega) (by omega)⟩ (by omega) trivial) (cwV 2 hts gL_holds_X4_thing rfl rfl rfl (by decide +kernel) ⟨Nat.le_of_ble_eq_true rfl, Nat.le_of_ble_eq_true rfl⟩) hW (xg_x (LGf D (pf sg) (hf sg) (wf sg) (upd (upd (tf sg) (2 * k) (nI (v1))) (2 * k + 1) (nI (v2))) (cf sg) (mf sg)) D y sg ta) rfl rfl rfl rfl hl.1 (Nat.le_of_ble_eq_true rfl) dL_holds_180 ⟨by show 50 + 4 * k + 0 + 0 + 4 ≤ 2000; omega, by show 400 + 26 * k + 0 + 0 + 26 ≤ 12000; omega⟩ (fun r_180 xa1 G1 H locs hp hW => ?_)
        obtain ⟨hgk, xb1, τ1, hag1, hu, hL1, hT1, hans⟩ := hp
        have hu2 : G1 = _ := congrArg Prod.snd hu
        subst hu2
        have hu1 : xb1 = xa1 := (congrArg Prod.fst hu).symm
        subst hu1
        have hl : lv_has ls 12 [(0, .ref (b)), (1, .ref (xb1 0 0)), (2, .ref (xb1 40 0)), (3, .ref (xb1 41 0)), (4, .ref (xb1 42 0)), (5, .ref (xb1 43 0)), (6, .ref (xb1 44 0)), (7, .ref (xb1 45 0)), (8, .int (nI (1))), (9, .int (nI (k)))] := by rw [hag1 0 0 (by omega), hag1 40 0 (by omega), hag1 41 0 (by omega), hag1 42 0 (by omega), hag1 43 0 (by omega), hag1 44 0 (by omega), hag1 45 0 (by omega)]; exact hl
        have hE : LGf D (pf sg) (hf sg) (wf sg) (upd (upd (tf sg) (2 * k) (nI (v1))) (2 * k + 1) (nI (v2))) (cf sg) (mf sg) = LG D (t_thing sg (nI v1) (nI v2) 0) := by rw [← h12]; exact LG_thing hv1 hv2
        have hW : xW D sa A s xb1 (xGs (LG D (t_thing sg (nI v1) (nI v2) 0)) D xb1 (t_thing sg (nI v1) (nI v2) 0) τ1) H locs := hW.eqG (congrArg (fun g => xGs g D xb1 (t_thing sg (nI v1) (nI v2) 0) τ1) hE).symm
        rw [h12] at hans
        have e_180 : r_180 = nI k := Int32.toInt_inj.mp (by rw [hans, nI_toInt (by omega)])
        subst e_180
        have hrr := t_thing_r (σ := sg) hv1 hv2
        refine lv_iload hx hb dL_holds_183 (lv_at hl 9 rfl) ?_
        refine lv_icmp_ne (tgt := 192) hx hb dL_holds_185 (by decide) (fun c_185 => ?_) (fun c_185 => ?_)
        · -- ne taken
          exact absurd rfl c_185
        · -- ne not
          refine lv_iconst (v := nI (1)) hx hb dL_holds_188 (by decide +kernel) ?_
          refine lv_goto (tgt := 193) hx hb dL_holds_189 (by decide) ?_
          refine lv_istore (lv' := [(8, .int (nI (1))), (0, .ref (b)), (1, .ref (xb1 0 0)), (2, .ref (xb1 40 0)), (3, .ref (xb1 41 0)), (4, .ref (xb1 42 0)), (5, .ref (xb1 43 0)), (6, .ref (xb1 44 0)), (7, .ref (xb1 45 0)), (9, .int (nI (k)))]) hx hb dL_holds_193 hl (by decide) rfl (fun ls hl => ?_)
          have hl : lv_has ls 12 [(0, .ref (b)), (1, .ref (xb1 0 0)), (2, .ref (xb1 40 0)), (3, .ref (xb1 41 0)), (4, .ref (xb1 42 0)), (5, .ref (xb1 43 0)), (6, .ref (xb1 44 0)), (7, .ref (xb1 45 0)), (8, .int (nI (1))), (9, .int (nI (k)))] := lv_sub hl [1, 2, 3, 4, 5, 6, 7, 8, 0, 9] rfl
          refine lv_iinc (v := nI (k + 1)) (lv' := [(9, .int (nI (k + 1))), (0, .ref (b)), (1, .ref (xb1 0 0)), (2, .ref (xb1 40 0)), (3, .ref (xb1 41 0)), (4, .ref (xb1 42 0)), (5, .ref (xb1 43 0)), (6, .ref (xb1 44 0)), (7, .ref (xb1 45 0)), (8, .int (nI (1)))]) hx hb dL_holds_195 hl (k := 9) rfl (x_inc k 1 rfl) (by decide) rfl (fun ls hl => ?_)
          have hl : lv_has ls 12 [(0, .ref (b)), (1, .ref (xb1 0 0)), (2, .ref (xb1 40 0)), (3, .ref (xb1 41 0)), (4, .ref (xb1 42 0)), (5, .ref (xb1 43 0)), (6, .ref (xb1 44 0)), (7, .ref (xb1 45 0)), (8, .int (nI (1))), (9, .int (nI (k + 1)))] := lv_sub hl [1, 2, 3, 4, 5, 6, 7, 8, 9, 0] rfl
          refine lv_goto (tgt := 111) hx hb dL_holds_198 (by decide) ?_
          refine W.widen (k := 50 + 4 * (k + 1)) (n := 400 + 26 * (k + 1)) (by omega) (by omega) ?_
          exact ih111 (3 - (k + 1)) (k + 1, t_thing sg (nI v1) (nI v2) 0, τ1, xb1) _ _ _ (by omega) ⟨rfl, hW, hl, g_thing hg hgk, hrr.2.1.trans h5, hrr.1.trans (by rw [h12]), hrr.2.2.trans h7, hL1, hT1, by (try dsimp only); omega⟩
  · -- ge not
    have c_59 : ¬ ((nI (8)).toInt ≤ (nI (k)).toInt) := fun h => c_59 (Int32.le_iff_toInt_le.mpr h)
    rw [nI_toInt (n := k) (by omega)] at c_59
    rw [nI_toInt (n := 8) (by omega)] at c_59
    refine lv_iload hx hb dL_holds_62 (lv_at hl 8 rfl) ?_
    refine lv_if_eq (tgt := 108) hx hb dL_holds_64 (by decide) (fun c_64 => ?_) (fun c_64 => ?_)
    · -- eq taken
      exact absurd c_64 (by decide)
    · -- eq not
      refine lv_aload_n hx hb dL_holds_67 rfl (lv_at hl 2 rfl) ?_
      refine lv_iload hx hb dL_holds_68 (lv_at hl 9 rfl) ?_
      refine lv_aload_n hx hb dL_holds_70 rfl (lv_at hl 0 rfl) ?_
      refine lv_sipush (v := nI (300)) hx hb dL_holds_71 (by decide +kernel) ?_
      refine lv_iload hx hb dL_holds_74 (lv_at hl 9 rfl) ?_
      refine lv_iadd hx hb dL_holds_76 ?_
      rw [nI_add]
      refine lv_iconst (v := nI (4)) hx hb dL_holds_77 (by decide +kernel) ?_
      refine xs_z (As := [.ref (b), .int (nI (300 + k)), .int (nI (4))]) (rest := [.int (nI (k)), .ref (y 40 0)]) ⟨hx, hb, hml, hown, hts⟩ (c_L_from l hst0 D sa y (xGs (LG D sg) D y sg ta) b L xs hLL (300 + k) (4) (by omega) (by omega) (by omega)) (va_cwS 3 hts gL_holds_L_from rfl rfl rfl (by decide +kernel) ⟨Nat.le_of_ble_eq_true rfl, Nat.le_of_ble_eq_true rfl⟩) hX hbl hbA hW rfl rfl hl.1 (Nat.le_of_ble_eq_true rfl) dL_holds_78 ⟨by show 20 + 3 * k + 0 ≤ 2000; omega, by show 200 + 23 * k + 0 ≤ 12000; omega⟩ (fun r_78 xa1 G1 H locs hp hW => ?_)
      obtain ⟨hu, v1, hv1, hr_78⟩ := hp
      cases hu
      subst hr_78
      refine x_ist hx hb hW 40 0 (LA_40 LA_x) (k) rfl (by omega) (by omega) dL_holds_81 fun H locs hW => ?_
      have hW : xW D sa A s y (xGs (LGf D (upd (pf sg) k (nI (v1))) (hf sg) (wf sg) (tf sg) (cf sg) (mf sg)) D y sg ta) H locs := hW.eqG (LG_up (by omega) (LG_p _)).symm
      refine lv_aload_n hx hb dL_holds_82 rfl (lv_at hl 1 rfl) ?_
      refine lv_aload_n hx hb dL_holds_83 rfl (lv_at hl 2 rfl) ?_
      refine lv_iload hx hb dL_holds_84 (lv_at hl 9 rfl) ?_
      refine x_ild hx hb hW 40 0 (LA_40 LA_x) (k) rfl (by omega) (by omega) (v := nI (v1)) (pk_us) dL_holds_86 ?_
      refine yg_i (k := 0) (i := 0) (As := [.int (nI (v1))]) (rest := []) ⟨hx, hb, hml, hown, hts⟩ (c_X4_person l hst0 D sa y (LGf D (upd (pf sg) k (nI (v1))) (hf sg) (wf sg) (tf sg) (cf sg) (mf sg)) sg ta hg hL hT (nI (v1))) (fun E => pxk_no (rg_of (n := v1) (by omega) (by omega) (by omega)) (by omega) trivial) (cwV 1 hts gL_holds_X4_person rfl rfl rfl (by decide +kernel) ⟨Nat.le_of_ble_eq_true rfl, Nat.le_of_ble_eq_true rfl⟩) hW (xg_x (LGf D (upd (pf sg) k (nI (v1))) (hf sg) (wf sg) (tf sg) (cf sg) (mf sg)) D y sg ta) rfl rfl rfl rfl hl.1 (Nat.le_of_ble_eq_true rfl) dL_holds_87 ⟨by show 20 + 3 * k + 0 + 3 ≤ 2000; omega, by show 200 + 23 * k + 0 + 23 ≤ 12000; omega⟩ (fun r_87 xa1 G1 H locs hp hW => ?_)
      obtain ⟨hgk, xb1, τ1, hag1, hu, hL1, hT1, hans⟩ := hp
      have hu2 : G1 = _ := congrArg Prod.snd hu
      subst hu2
      have hu1 : xb1 = xa1 := (congrArg Prod.fst hu).symm
      subst hu1
      have hl : lv_has ls 12 [(0, .ref (b)), (1, .ref (xb1 0 0)), (2, .ref (xb1 40 0)), (3, .ref (xb1 41 0)), (4, .ref (xb1 42 0)), (5, .ref (xb1 43 0)), (6, .ref (xb1 44 0)), (7, .ref (xb1 45 0)), (8, .int (nI (1))), (9, .int (nI (k)))] := by rw [hag1 0 0 (by omega), hag1 40 0 (by omega), hag1 41 0 (by omega), hag1 42 0 (by omega), hag1 43 0 (by omega), hag1 44 0 (by omega), hag1 45 0 (by omega)]; exact hl
      have hE : LGf D (upd (pf sg) k (nI (v1))) (hf sg) (wf sg) (tf sg) (cf sg) (mf sg) = LG D (t_person sg (nI v1) 0) := by rw [← h5]; exact LG_person hv1 (hg.2.2.2.1 _ (Nat.le_refl _)).1
      have hW : xW D sa A s xb1 (xGs (LG D (t_person sg (nI v1) 0)) D xb1 (t_person sg (nI v1) 0) τ1) H locs := hW.eqG (congrArg (fun g => xGs g D xb1 (t_person sg (nI v1) 0) τ1) hE).symm
      rw [h5] at hans
      have e_87 : r_87 = nI k := Int32.toInt_inj.mp (by rw [hans, nI_toInt (by omega)])
      subst e_87
      have hrr := t_person_r (σ := sg) hv1
      refine lv_iload hx hb dL_holds_90 (lv_at hl 9 rfl) ?_
      refine lv_icmp_ne (tgt := 99) hx hb dL_holds_92 (by decide) (fun c_92 => ?_) (fun c_92 => ?_)
      · -- ne taken
        exact absurd rfl c_92
      · -- ne not
        refine lv_iconst (v := nI (1)) hx hb dL_holds_95 (by decide +kernel) ?_
        refine lv_goto (tgt := 100) hx hb dL_holds_96 (by decide) ?_
        refine lv_istore (lv' := [(8, .int (nI (1))), (0, .ref (b)), (1, .ref (xb1 0 0)), (2, .ref (xb1 40 0)), (3, .ref (xb1 41 0)), (4, .ref (xb1 42 0)), (5, .ref (xb1 43 0)), (6, .ref (xb1 44 0)), (7, .ref (xb1 45 0)), (9, .int (nI (k)))]) hx hb dL_holds_100 hl (by decide) rfl (fun ls hl => ?_)
        have hl : lv_has ls 12 [(0, .ref (b)), (1, .ref (xb1 0 0)), (2, .ref (xb1 40 0)), (3, .ref (xb1 41 0)), (4, .ref (xb1 42 0)), (5, .ref (xb1 43 0)), (6, .ref (xb1 44 0)), (7, .ref (xb1 45 0)), (8, .int (nI (1))), (9, .int (nI (k)))] := lv_sub hl [1, 2, 3, 4, 5, 6, 7, 8, 0, 9] rfl
        refine lv_iinc (v := nI (k + 1)) (lv' := [(9, .int (nI (k + 1))), (0, .ref (b)), (1, .ref (xb1 0 0)), (2, .ref (xb1 40 0)), (3, .ref (xb1 41 0)), (4, .ref (xb1 42 0)), (5, .ref (xb1 43 0)), (6, .ref (xb1 44 0)), (7, .ref (xb1 45 0)), (8, .int (nI (1)))]) hx hb dL_holds_102 hl (k := 9) rfl (x_inc k 1 rfl) (by decide) rfl (fun ls hl => ?_)
        have hl : lv_has ls 12 [(0, .ref (b)), (1, .ref (xb1 0 0)), (2, .ref (xb1 40 0)), (3, .ref (xb1 41 0)), (4, .ref (xb1 42 0)), (5, .ref (xb1 43 0)), (6, .ref (xb1 44 0)), (7, .ref (xb1 45 0)), (8, .int (nI (1))), (9, .int (nI (k + 1)))] := lv_sub hl [1, 2, 3, 4, 5, 6, 7, 8, 9, 0] rfl
        refine lv_goto (tgt := 55) hx hb dL_holds_105 (by decide) ?_
        refine W.widen (k := 20 + 3 * (k + 1)) (n := 200 + 23 * (k + 1)) (by omega) (by omega) ?_
        exact ih55 (8 - (k + 1)) (k + 1, t_person sg (nI v1) 0, τ1, xb1) _ _ _ (by omega) ⟨rfl, hW, hl, g_person hg hgk, hrr.1.trans (by rw [h5]), hrr.2.1.trans h12, hrr.2.2.trans h7, hL1, hT1, by (try dsimp only); omega⟩
