set_option maxHeartbeats 4000000 in
set_option maxRecDepth 100000 in
theorem c_X4_die (l : Launch) (hst0 : l.stackTraces = false) (D : xD) (sa : Nat → Nat) (xa : xA) (G0 : xG) (σ : Sg) (τ : Tg) (hg : Gd σ) (hL : LL σ τ) (hT : TE σ τ) (x : Int32) : xXv l yX4_die wsX4_die ({ frames := 16, cells := 2, slots := 12, locals := 500 } : Room) D sa xa (xGs G0 D xa σ τ) [.ref (xa 0 0), .int x] (fun u => (gk (pP σ x) (σ 2 (xn x) = 0) True) 0 ∧ xPo D xa G0 (t_die σ x 0) (True) u) (pxk (gk (pP σ x) (σ 2 (xn x) = 0) True) xIob xIse xIse) 2 12 := by
  have hB := hg.1
  have h5 := hg.2.1.1
  have h7 := hg.2.1.2.1
  have h12 := hg.2.1.2.2.1
  have hy0 := hg.2.1.2.2.2.1
  have hy1 := hg.2.1.2.2.2.2
  have hm := hg.hm
  have hs8 := hg.hs8
  intro sz
  refine vx_ofW (cc := cX4_die) (maxL := 3) (ret := none) (by decide +kernel) rfl ?_
  intro p e s m args below meth c s₁ B hml hout hv
  obtain ⟨rfl, hsz, hv2⟩ := hv
  subst hsz
  have hx := B.exec
  have hb := B.bytes
  have hr := B.returns
  have hts := atoms_spec (ws := wsX4_die) B.pre
  have hown : s.vm.findClass RX4 = some m.cls := findClass_of_methodNamed B.named
  have hlocks := B.notSynchronized
  have hin1 : ∀ w ∈ wsX10, w ∈ wsX4_die := by decide +kernel
  have hin4 : ∀ w ∈ wsX40, w ∈ wsX4_die := by decide +kernel
  have hW := xW.start (s := s) ⟨rfl, hv2⟩
  clear hv2
  generalize xAw xa (xGs G0 D xa σ τ) s.heap.size = A at hW ⊢
  have hl := lv_entry ([.ref (xa 0 0), .int (x)]) (n := 3) (Nat.le_of_ble_eq_true rfl)
  rw [lg_entry_eq]
  generalize (lg_sl ([.ref (xa 0 0), .int (x)]) ++ List.replicate (3 - (lg_sl ([.ref (xa 0 0), .int (x)])).length) Slot.unset).toArray = ls at hl ⊢
  have hl : lv_has ls 3 [(0, .ref (xa 0 0)), (1, .int (x))] := hl
  refine lv_aload_n hx hb dX4_die_0 rfl (lv_at hl 0 rfl) ?_
  refine lv_iload_n hx hb dX4_die_1 rfl (lv_at hl 1 rfl) ?_
  refine yv_r (k := 0) (i := 0) (As := [.int (x)]) (rest := []) ⟨hx, hb, hml, hown, hts⟩ (c_X4_personNumbered l hst0 D sa xa G0 σ τ hg hL x) (cwV 1 hts gX4_die_X4_personNumbered rfl rfl rfl (by decide +kernel) ⟨Nat.le_of_ble_eq_true rfl, Nat.le_of_ble_eq_true rfl⟩) ⟨hout, hlocks⟩ (fun E h => px1 h.2 h.1) ⟨Nat.le_of_ble_eq_true rfl, Nat.le_of_ble_eq_true rfl⟩ hW (xg_x G0 D xa σ τ) rfl rfl rfl rfl hl.1 (Nat.le_of_ble_eq_true rfl) dX4_die_2 ⟨Nat.le_of_ble_eq_true rfl, Nat.le_of_ble_eq_true rfl⟩ (fun r_2 xa1 G1 H locs hp hW => ?_)
  obtain ⟨i, hi, rfl, ha_2, hu⟩ := hp
  cases hu
  subst ha_2
  refine lv_astore_n (lv' := [(2, .ref (xa 10 i)), (0, .ref (xa 0 0)), (1, .int (nI (i)))]) hx hb dX4_die_5 rfl hl (by decide) rfl (fun ls hl => ?_)
  have hl : lv_has ls 3 [(0, .ref (xa 0 0)), (1, .int (nI (i))), (2, .ref (xa 10 i))] := lv_sub hl [1, 2, 0] rfl
  refine lv_aload_n hx hb dX4_die_6 rfl (lv_at hl 2 rfl) ?_
  refine x_get hx hb hts hin1 hown hW 10 i (xg_p G0 D xa σ τ (i := i) (by omega)) rfl 2 (by decide) (hts (.fieldLink RX4 56 "Restitutory$Person" "dead" "Z") (by decide +kernel)) rfl (v := .int (nI (σ 2 i))) (rfl) dX4_die_7 ?_
  have b_7 := hB 2 i
  refine lv_if_eq (tgt := 23) hx hb dX4_die_10 (by decide) (fun c_10 => ?_) (fun c_10 => ?_)
  · -- eq taken
    have c_10 := (x_eqZ (a := σ 2 i) (by omega)).mp c_10
    refine lv_aload_n hx hb dX4_die_23 rfl (lv_at hl 2 rfl) ?_
    refine lv_iconst (v := nI (1)) hx hb dX4_die_24 (by decide +kernel) ?_
    refine x_put (ty := .boolean) (v := .int (nI (1))) hx hb hts hin1 tyX1 tyX1_ok nmX1 hown hW 10 (i) (fs := pfs xa σ τ (i)) (xg_p G0 D xa σ τ (i := i) (by omega)) rfl 2 (by decide) (hts (.fieldLink RX4 56 "Restitutory$Person" "dead" "Z") (by decide +kernel)) rfl rfl (by decide +kernel) rfl rfl (Nat.le_of_ble_eq_true rfl) dX4_die_25 fun H locs hW => ?_
    have hW := hW.eqG (xf_dead G0 D xa (σ := σ) (τ := τ) (i := i) (v := 1) (by omega)).symm
    exact ye_v hx hb hr hlocks hW ⟨gk.mk0 (pP_of hi h5) (by rw [xn_nI (by omega)]; exact c_10) trivial, xa, τ, fun _ _ _ => rfl, by rw [show t_die σ (nI i) 0 = sup σ 2 i 1 by unfold t_die; rw [if_pos rfl, xn_nI (by omega)]], hL, hT, trivial⟩ (Nat.le_of_ble_eq_true rfl) (Nat.le_of_ble_eq_true rfl) dX4_die_28
  · -- eq not
    have c_10 : ¬ (σ 2 i = 0) := fun h_ => c_10 ((x_eqZ (a := σ 2 i) (by omega)).mpr h_)
    exact y_throw (cls := xIse) (text := "the person is dead") hx hb hst0 hown ce_ise (hts (.classLink RX4 42 "java/lang/IllegalStateException") (by decide +kernel)) (hts (.initialized "java/lang/IllegalStateException") (by decide +kernel)) (fun w h => hts w (List.mem_cons_of_mem _ (List.mem_append_left _ (List.mem_append_right _ h)))) (by decide +kernel) hW (hl.1.trans hml.symm) dX4_die_13 dX4_die_16 dX4_die_17 dX4_die_19 dX4_die_22 ⟨hout, hlocks⟩ (Nat.le_of_ble_eq_true rfl) (Nat.le_of_ble_eq_true rfl) ⟨Nat.le_of_ble_eq_true rfl, Nat.le_of_ble_eq_true rfl⟩ (px2 (pP_of hi h5) (by rw [xn_nI (by omega)]; exact c_10) rfl) ⟨Nat.le_of_ble_eq_true rfl, Nat.le_of_ble_eq_true rfl⟩

set_option maxHeartbeats 4000000 in
set_option maxRecDepth 100000 in
theorem c_X4_faith (l : Launch) (hst0 : l.stackTraces = false) (D : xD) (sa : Nat → Nat) (xa : xA) (G0 : xG) (σ : Sg) (τ : Tg) (hg : Gd σ) (hL : LL σ τ) (hT : TE σ τ) (a y : Int32) : xXi l yX4_faith wsX4_faith ({ frames := 14, cells := 2, slots := 12, locals := 400 } : Room) D sa xa (xGs G0 D xa σ τ) [.ref (xa 0 0), .int a, .int y] (fun r u => (gk (pL a) (rg y 0 60) True) 0 ∧ xPo D xa G0 (t_faith σ a y 0) (r.toInt = (σ 8 (xn a) : Int)) u) (pxk (gk (pL a) (rg y 0 60) True) xIob xIae xIae) 2 12 := by
  have hB := hg.1
  have h5 := hg.2.1.1
  have h7 := hg.2.1.2.1
  have h12 := hg.2.1.2.2.1
  have hy0 := hg.2.1.2.2.2.1
  have hy1 := hg.2.1.2.2.2.2
  have hm := hg.hm
  have hs8 := hg.hs8
  intro sz
  refine vx_ofW (cc := cX4_faith) (maxL := 4) (ret := (some .int)) (by decide +kernel) rfl ?_
  intro p e s m args below meth c s₁ B hml hout hv
  obtain ⟨rfl, hsz, hv2⟩ := hv
  subst hsz
  have hx := B.exec
  have hb := B.bytes
  have hr := B.returns
  have hts := atoms_spec (ws := wsX4_faith) B.pre
  have hown : s.vm.findClass RX4 = some m.cls := findClass_of_methodNamed B.named
  have hlocks := B.notSynchronized
  have hin4 : ∀ w ∈ wsX40, w ∈ wsX4_faith := by decide +kernel
  have hW := xW.start (s := s) ⟨rfl, hv2⟩
  clear hv2
  generalize xAw xa (xGs G0 D xa σ τ) s.heap.size = A at hW ⊢
  have hl := lv_entry ([.ref (xa 0 0), .int (a), .int (y)]) (n := 4) (Nat.le_of_ble_eq_true rfl)
  rw [lg_entry_eq]
  generalize (lg_sl ([.ref (xa 0 0), .int (a), .int (y)]) ++ List.replicate (4 - (lg_sl ([.ref (xa 0 0), .int (a), .int (y)])).length) Slot.unset).toArray = ls at hl ⊢
  have hl : lv_has ls 4 [(0, .ref (xa 0 0)), (1, .int (a)), (2, .int (y))] := hl
  refine lv_iload_n hx hb dX4_faith_0 rfl (lv_at hl 1 rfl) ?_
  refine ys_v (As := [.int (a)]) (rest := []) ⟨hx, hb, hml, hown, hts⟩ (c_X4_requireLand l hst0 D sa xa (xGs G0 D xa σ τ) a) (va_cwS 1 hts gX4_faith_X4_requireLand rfl rfl rfl (by decide +kernel) ⟨Nat.le_of_ble_eq_true rfl, Nat.le_of_ble_eq_true rfl⟩) ⟨hout, hlocks⟩ (fun E h => px1 h.2 h.1) ⟨Nat.le_of_ble_eq_true rfl, Nat.le_of_ble_eq_true rfl⟩ hW rfl rfl hl.1 (Nat.le_of_ble_eq_true rfl) dX4_faith_1 ⟨Nat.le_of_ble_eq_true rfl, Nat.le_of_ble_eq_true rfl⟩ (fun xa1 G1 H locs hp hW => ?_)
  obtain ⟨hu, hq_1⟩ := hp
  cases hu
  refine lv_iload_n hx hb dX4_faith_4 rfl (lv_at hl 2 rfl) ?_
  refine lv_iconst (v := nI (0)) hx hb dX4_faith_5 (by decide +kernel) ?_
  refine lv_bipush (v := nI (60)) hx hb dX4_faith_6 (by decide +kernel) ?_
  refine ys_v (As := [.int (y), .int (nI (0)), .int (nI (60))]) (rest := []) ⟨hx, hb, hml, hown, hts⟩ (c_X4_requireRange l hst0 D sa xa (xGs G0 D xa σ τ) y (nI (0)) (nI (60))) (va_cwS 3 hts gX4_faith_X4_requireRange rfl rfl rfl (by decide +kernel) ⟨Nat.le_of_ble_eq_true rfl, Nat.le_of_ble_eq_true rfl⟩) ⟨hout, hlocks⟩ (fun E h => px2 hq_1 (fun hh => h.2 ((rg_in (by omega) (by omega)).mpr hh)) h.1) ⟨Nat.le_of_ble_eq_true rfl, Nat.le_of_ble_eq_true rfl⟩ hW rfl rfl hl.1 (Nat.le_of_ble_eq_true rfl) dX4_faith_8 ⟨Nat.le_of_ble_eq_true rfl, Nat.le_of_ble_eq_true rfl⟩ (fun xa1 G1 H locs hp hW => ?_)
  obtain ⟨hu, hq_8⟩ := hp
  cases hu
  have hLa := hq_1
  have hRy := (rg_in (a := 0) (b := 60) (by omega) (by omega)).mp hq_8
  have hz := hRy
  unfold rg at hz
  have hza := hLa
  unfold pL at hza
  obtain ⟨ai, hai, rfl⟩ := x_nat (n := 5) (x := a) (by omega) (by omega)
  obtain ⟨yi, hyi, rfl⟩ := x_nat (n := 61) (x := y) (by omega) (by omega)
  refine lv_aload_n hx hb dX4_faith_11 rfl (lv_at hl 0 rfl) ?_
  refine x_get hx hb hts hin4 hown hW 0 0 (xg_x G0 D xa σ τ) rfl 4 (by decide) (hts (.fieldLink RX4 21 "Restitutory" "faithYears" "[I") (by decide +kernel)) rfl (v := .ref (xa 3 0)) (rfl) dX4_faith_12 ?_
  refine lv_iload_n hx hb dX4_faith_15 rfl (lv_at hl 1 rfl) ?_
  refine x_ild hx hb hW 3 0 (xg_fa G0 D xa σ τ) (ai) rfl (by omega) (by omega) rfl dX4_faith_16 ?_
  have b_16 := hB 8 ai
  refine lv_istore_n (lv' := [(3, .int (nI (σ 8 ai))), (0, .ref (xa 0 0)), (1, .int (nI (ai))), (2, .int (nI (yi)))]) hx hb dX4_faith_17 rfl hl (by decide) rfl (fun ls hl => ?_)
  have hl : lv_has ls 4 [(0, .ref (xa 0 0)), (1, .int (nI (ai))), (2, .int (nI (yi))), (3, .int (nI (σ 8 ai)))] := lv_sub hl [1, 2, 3, 0] rfl
  refine lv_aload_n hx hb dX4_faith_18 rfl (lv_at hl 0 rfl) ?_
  refine x_get hx hb hts hin4 hown hW 0 0 (xg_x G0 D xa σ τ) rfl 4 (by decide) (hts (.fieldLink RX4 21 "Restitutory" "faithYears" "[I") (by decide +kernel)) rfl (v := .ref (xa 3 0)) (rfl) dX4_faith_19 ?_
  refine lv_iload_n hx hb dX4_faith_22 rfl (lv_at hl 1 rfl) ?_
  refine lv_iload_n hx hb dX4_faith_23 rfl (lv_at hl 2 rfl) ?_
  refine x_ist hx hb hW 3 0 (xg_fa G0 D xa σ τ) (ai) rfl (by omega) (by omega) dX4_faith_24 fun H locs hW => ?_
  have hW := hW.eqG (xf_faith G0 D xa (σ := σ) (τ := τ) (a := ai) (v := yi)).symm
  refine lv_iload_n hx hb dX4_faith_25 rfl (lv_at hl 3 rfl) ?_
  exact ye_i hx hb hr rfl hlocks hW ⟨gk.mk0 hLa hRy trivial, xa, τ, fun _ _ _ => rfl, by rw [show t_faith σ (nI ai) (nI yi) 0 = sup σ 8 ai yi by unfold t_faith; rw [if_pos rfl, xn_nI (by omega), xn_nI (by omega)]], hL, hT, by rw [xn_nI (by omega)]; exact nI_toInt (by omega)⟩ (Nat.le_of_ble_eq_true rfl) (Nat.le_of_ble_eq_true rfl) dX4_faith_26

set_option maxHeartbeats 4000000 in
set_option maxRecDepth 100000 in
theorem c_X4_now (l : Launch) (hst0 : l.stackTraces = false) (D : xD) (sa : Nat → Nat) (xa : xA) (G0 : xG) (σ : Sg) (τ : Tg) (hg : Gd σ) (hL : LL σ τ) (hT : TE σ τ) (y : Int32) : xXi l yX4_now wsX4_now ({ frames := 14, cells := 1, slots := 6, locals := 400 } : Room) D sa xa (xGs G0 D xa σ τ) [.ref (xa 0 0), .int y] (fun r u => (gk ((σ 0 0 : Int) ≤ y.toInt ∧ y.toInt ≤ 2100) True True) 0 ∧ xPo D xa G0 (t_now σ y 0) (r.toInt = (σ 0 0 : Int)) u) (pxk (gk ((σ 0 0 : Int) ≤ y.toInt ∧ y.toInt ≤ 2100) True True) xIae xIae xIae) 1 6 := by
  have hB := hg.1
  have h5 := hg.2.1.1
  have h7 := hg.2.1.2.1
  have h12 := hg.2.1.2.2.1
  have hy0 := hg.2.1.2.2.2.1
  have hy1 := hg.2.1.2.2.2.2
  have hm := hg.hm
  have hs8 := hg.hs8
  intro sz
  refine vx_ofW (cc := cX4_now) (maxL := 3) (ret := (some .int)) (by decide +kernel) rfl ?_
  intro p e s m args below meth c s₁ B hml hout hv
  obtain ⟨rfl, hsz, hv2⟩ := hv
  subst hsz
  have hx := B.exec
  have hb := B.bytes
  have hr := B.returns
  have hts := atoms_spec (ws := wsX4_now) B.pre
  have hown : s.vm.findClass RX4 = some m.cls := findClass_of_methodNamed B.named
  have hlocks := B.notSynchronized
  have hin4 : ∀ w ∈ wsX40, w ∈ wsX4_now := by decide +kernel
  have hW := xW.start (s := s) ⟨rfl, hv2⟩
  clear hv2
  generalize xAw xa (xGs G0 D xa σ τ) s.heap.size = A at hW ⊢
  have hl := lv_entry ([.ref (xa 0 0), .int (y)]) (n := 3) (Nat.le_of_ble_eq_true rfl)
  rw [lg_entry_eq]
  generalize (lg_sl ([.ref (xa 0 0), .int (y)]) ++ List.replicate (3 - (lg_sl ([.ref (xa 0 0), .int (y)])).length) Slot.unset).toArray = ls at hl ⊢
  have hl : lv_has ls 3 [(0, .ref (xa 0 0)), (1, .int (y))] := hl
  refine lv_iload_n hx hb dX4_now_0 rfl (lv_at hl 1 rfl) ?_
  refine lv_aload_n hx hb dX4_now_1 rfl (lv_at hl 0 rfl) ?_
  refine x_get hx hb hts hin4 hown hW 0 0 (xg_x G0 D xa σ τ) rfl 5 (by decide) (hts (.fieldLink RX4 25 "Restitutory" "currentYear" "I") (by decide +kernel)) rfl (v := .int (nI (σ 0 0))) (rfl) dX4_now_2 ?_
  have b_2 := hB 0 0
  refine lv_sipush (v := nI (2100)) hx hb dX4_now_5 (by decide +kernel) ?_
  refine ys_v (As := [.int (y), .int (nI (σ 0 0)), .int (nI (2100))]) (rest := []) ⟨hx, hb, hml, hown, hts⟩ (c_X4_requireRange l hst0 D sa xa (xGs G0 D xa σ τ) y (nI (σ 0 0)) (nI (2100))) (va_cwS 3 hts gX4_now_X4_requireRange rfl rfl rfl (by decide +kernel) ⟨Nat.le_of_ble_eq_true rfl, Nat.le_of_ble_eq_true rfl⟩) ⟨hout, hlocks⟩ (fun E h => px1 (fun hh => h.2 (by rw [nI_toInt (by omega), nI_toInt (by omega)]; exact hh)) h.1) ⟨Nat.le_of_ble_eq_true rfl, Nat.le_of_ble_eq_true rfl⟩ hW rfl rfl hl.1 (Nat.le_of_ble_eq_true rfl) dX4_now_8 ⟨Nat.le_of_ble_eq_true rfl, Nat.le_of_ble_eq_true rfl⟩ (fun xa1 G1 H locs hp hW => ?_)
  obtain ⟨hu, hq_8⟩ := hp
  cases hu
  have hNy := hq_8
  rw [nI_toInt (by omega), nI_toInt (by omega)] at hNy
  have hNy : ((σ 0 0 : Int) ≤ y.toInt ∧ y.toInt ≤ 2100) := hNy
  obtain ⟨yi, hyi, rfl⟩ := x_nat (n := 2101) (x := y) (by omega) (by omega)
  refine lv_aload_n hx hb dX4_now_11 rfl (lv_at hl 0 rfl) ?_
  refine x_get hx hb hts hin4 hown hW 0 0 (xg_x G0 D xa σ τ) rfl 5 (by decide) (hts (.fieldLink RX4 25 "Restitutory" "currentYear" "I") (by decide +kernel)) rfl (v := .int (nI (σ 0 0))) (rfl) dX4_now_12 ?_
  have b_12 := hB 0 0
  refine lv_istore_n (lv' := [(2, .int (nI (σ 0 0))), (0, .ref (xa 0 0)), (1, .int (nI (yi)))]) hx hb dX4_now_15 rfl hl (by decide) rfl (fun ls hl => ?_)
  have hl : lv_has ls 3 [(0, .ref (xa 0 0)), (1, .int (nI (yi))), (2, .int (nI (σ 0 0)))] := lv_sub hl [1, 2, 0] rfl
  refine lv_aload_n hx hb dX4_now_16 rfl (lv_at hl 0 rfl) ?_
  refine lv_iload_n hx hb dX4_now_17 rfl (lv_at hl 1 rfl) ?_
  refine x_put (ty := .int) (v := .int (nI (yi))) hx hb hts hin4 tyX4 tyX4_ok nmX4 hown hW 0 (0) (fs := xfs xa σ) (xg_x G0 D xa σ τ) rfl 5 (by decide) (hts (.fieldLink RX4 25 "Restitutory" "currentYear" "I") (by decide +kernel)) rfl rfl (by decide +kernel) rfl rfl (Nat.le_of_ble_eq_true rfl) dX4_now_18 fun H locs hW => ?_
  have hW := hW.eqG (xf_year G0 D xa (σ := σ) (τ := τ) (v := yi)).symm
  refine lv_iload_n hx hb dX4_now_21 rfl (lv_at hl 2 rfl) ?_
  exact ye_i hx hb hr rfl hlocks hW ⟨gk.mk0 hNy trivial trivial, xa, τ, fun _ _ _ => rfl, by rw [show t_now σ (nI yi) 0 = sup σ 0 0 yi by unfold t_now; rw [if_pos rfl, xn_nI (by omega)]], hL, hT, nI_toInt (by omega)⟩ (Nat.le_of_ble_eq_true rfl) (Nat.le_of_ble_eq_true rfl) dX4_now_22

set_option maxHeartbeats 4000000 in
set_option maxRecDepth 100000 in
theorem c_X4_rebut (l : Launch) (hst0 : l.stackTraces = false) (D : xD) (sa : Nat → Nat) (xa : xA) (G0 : xG) (σ : Sg) (τ : Tg) (hg : Gd σ) (hL : LL σ τ) (hT : TE σ τ) (t x : Int32) (bn : Nat) (hbn : bn < 2) : xXi l yX4_rebut wsX4_rebut ({ frames := 18, cells := 3, slots := 18, locals := 600 } : Room) D sa xa (xGs G0 D xa σ τ) [.ref (xa 0 0), .int t, .int x, .int (nI bn)] (fun r u => (gk (pS σ t x) (σ 14 (8 * xn t + xn x) = 0) True) 0 ∧ xPo D xa G0 (t_rebut σ t x bn 0) (tv r (σ 17 (8 * xn t + xn x) = 1)) u) (pxk (gk (pS σ t x) (σ 14 (8 * xn t + xn x) = 0) True) xIob xIae xIae) 3 18 := by
  have hB := hg.1
  have h5 := hg.2.1.1
  have h7 := hg.2.1.2.1
  have h12 := hg.2.1.2.2.1
  have hy0 := hg.2.1.2.2.2.1
  have hy1 := hg.2.1.2.2.2.2
  have hm := hg.hm
  have hs8 := hg.hs8
  intro sz
  refine vx_ofW (cc := cX4_rebut) (maxL := 6) (ret := (some .boolean)) (by decide +kernel) rfl ?_
  intro p e s m args below meth c s₁ B hml hout hv
  obtain ⟨rfl, hsz, hv2⟩ := hv
  subst hsz
  have hx := B.exec
  have hb := B.bytes
  have hr := B.returns
  have hts := atoms_spec (ws := wsX4_rebut) B.pre
  have hown : s.vm.findClass RX4 = some m.cls := findClass_of_methodNamed B.named
  have hlocks := B.notSynchronized
  have hin2 : ∀ w ∈ wsX20, w ∈ wsX4_rebut := by decide +kernel
  have hin3 : ∀ w ∈ wsX30, w ∈ wsX4_rebut := by decide +kernel
  have hin4 : ∀ w ∈ wsX40, w ∈ wsX4_rebut := by decide +kernel
  have hW := xW.start (s := s) ⟨rfl, hv2⟩
  clear hv2
  generalize xAw xa (xGs G0 D xa σ τ) s.heap.size = A at hW ⊢
  have hl := lv_entry ([.ref (xa 0 0), .int (t), .int (x), .int (nI (bn))]) (n := 6) (Nat.le_of_ble_eq_true rfl)
  rw [lg_entry_eq]
  generalize (lg_sl ([.ref (xa 0 0), .int (t), .int (x), .int (nI (bn))]) ++ List.replicate (6 - (lg_sl ([.ref (xa 0 0), .int (t), .int (x), .int (nI (bn))])).length) Slot.unset).toArray = ls at hl ⊢
  have hl : lv_has ls 6 [(0, .ref (xa 0 0)), (1, .int (t)), (2, .int (x)), (3, .int (nI (bn)))] := hl
  refine lv_aload_n hx hb dX4_rebut_0 rfl (lv_at hl 0 rfl) ?_
  refine lv_iload_n hx hb dX4_rebut_1 rfl (lv_at hl 1 rfl) ?_
  refine lv_iload_n hx hb dX4_rebut_2 rfl (lv_at hl 2 rfl) ?_
  refine yv_r (k := 0) (i := 0) (As := [.int (t), .int (x)]) (rest := []) ⟨hx, hb, hml, hown, hts⟩ (c_X4_stationNumbered l hst0 D sa xa G0 σ τ hg hL t x) (cwV 2 hts gX4_rebut_X4_stationNumbered rfl rfl rfl (by decide +kernel) ⟨Nat.le_of_ble_eq_true rfl, Nat.le_of_ble_eq_true rfl⟩) ⟨hout, hlocks⟩ (fun E h => px1 h.2 h.1) ⟨Nat.le_of_ble_eq_true rfl, Nat.le_of_ble_eq_true rfl⟩ hW (xg_x G0 D xa σ τ) rfl rfl rfl rfl hl.1 (Nat.le_of_ble_eq_true rfl) dX4_rebut_3 ⟨Nat.le_of_ble_eq_true rfl, Nat.le_of_ble_eq_true rfl⟩ (fun r_3 xa1 G1 H locs hp hW => ?_)
  obtain ⟨ti, k, hti, hk, rfl, rfl, ha_3, hu⟩ := hp
  cases hu
  subst ha_3
  have h8 := hs8 ti
  have sk := (hg.2.2.2.2.1 ti hti).2.2 k hk
  refine lv_astore (lv' := [(4, .ref (xa 15 (8 * ti + k))), (0, .ref (xa 0 0)), (1, .int (nI (ti))), (2, .int (nI (k))), (3, .int (nI (bn)))]) hx hb dX4_rebut_6 hl (by decide) rfl (fun ls hl => ?_)
  have hl : lv_has ls 6 [(0, .ref (xa 0 0)), (1, .int (nI (ti))), (2, .int (nI (k))), (3, .int (nI (bn))), (4, .ref (xa 15 (8 * ti + k)))] := lv_sub hl [1, 2, 3, 4, 0] rfl
  refine lv_aload hx hb dX4_rebut_8 (lv_at hl 4 rfl) ?_
  refine x_get hx hb hts hin2 hown hW 15 (8 * ti + k) (xg_s G0 D xa σ τ (i := 8 * ti + k) (lvS_of hti hk h8)) rfl 2 (by decide) (hts (.fieldLink RX4 130 "Restitutory$Station" "kind" "I") (by decide +kernel)) rfl (v := .int (nI (σ 14 (8 * ti + k)))) (rfl) dX4_rebut_10 ?_
  have b_10 := hB 14 (8 * ti + k)
  refine lv_if_eq (tgt := 26) hx hb dX4_rebut_13 (by decide) (fun c_13 => ?_) (fun c_13 => ?_)
  · -- eq taken
    have c_13 := (x_eqZ (a := σ 14 (8 * ti + k)) (by omega)).mp c_13
    refine lv_aload hx hb dX4_rebut_26 (lv_at hl 4 rfl) ?_
    refine x_get hx hb hts hin2 hown hW 15 (8 * ti + k) (xg_s G0 D xa σ τ (i := 8 * ti + k) (lvS_of hti hk h8)) rfl 5 (by decide) (hts (.fieldLink RX4 135 "Restitutory$Station" "rebutted" "Z") (by decide +kernel)) rfl (v := .int (nI (σ 17 (8 * ti + k)))) (rfl) dX4_rebut_28 ?_
    have b_28 := hB 17 (8 * ti + k)
    refine lv_istore (lv' := [(5, .int (nI (σ 17 (8 * ti + k)))), (0, .ref (xa 0 0)), (1, .int (nI (ti))), (2, .int (nI (k))), (3, .int (nI (bn))), (4, .ref (xa 15 (8 * ti + k)))]) hx hb dX4_rebut_31 hl (by decide) rfl (fun ls hl => ?_)
    have hl : lv_has ls 6 [(0, .ref (xa 0 0)), (1, .int (nI (ti))), (2, .int (nI (k))), (3, .int (nI (bn))), (4, .ref (xa 15 (8 * ti + k))), (5, .int (nI (σ 17 (8 * ti + k))))] := lv_sub hl [1, 2, 3, 4, 5, 0] rfl
    refine lv_aload hx hb dX4_rebut_33 (lv_at hl 4 rfl) ?_
    refine lv_iload_n hx hb dX4_rebut_35 rfl (lv_at hl 3 rfl) ?_
    refine x_put (ty := .boolean) (v := .int (nI (bn))) hx hb hts hin2 tyX2 tyX2_ok nmX2 hown hW 15 (8 * ti + k) (fs := sfs xa σ τ (8 * ti + k)) (xg_s G0 D xa σ τ (i := 8 * ti + k) (lvS_of hti hk h8)) rfl 5 (by decide) (hts (.fieldLink RX4 135 "Restitutory$Station" "rebutted" "Z") (by decide +kernel)) rfl rfl (by decide +kernel) (tv.ofNat (by omega)).nar (by rcases (show bn = 0 ∨ bn = 1 by omega) with h_ | h_ <;> rw [h_] <;> rfl) (Nat.le_of_ble_eq_true rfl) dX4_rebut_36 fun H locs hW => ?_
    have hW := hW.eqG (xf_reb G0 D xa (σ := σ) (τ := τ) (i := 8 * ti + k) (v := bn) (lvS_of hti hk h8)).symm
    refine lv_iload hx hb dX4_rebut_39 (lv_at hl 5 rfl) ?_
    exact ye_i hx hb hr (tv.ofNat (n := σ 17 (8 * ti + k)) (by omega)).nar hlocks hW ⟨gk.mk0 (pS_of hti h12 hk h8) (by rw [xn_nI (by omega), xn_nI (by omega)]; exact c_13) trivial, xa, τ, fun _ _ _ => rfl, by rw [show t_rebut σ (nI ti) (nI k) bn 0 = sup σ 17 (8 * ti + k) bn by unfold t_rebut; rw [if_pos rfl, xn_nI (by omega), xn_nI (by omega)]], hL, hT, by rw [xn_nI (by omega), xn_nI (by omega)]; exact tv.ofNat sk.2.2.2.2.2.1⟩ (Nat.le_of_ble_eq_true rfl) (Nat.le_of_ble_eq_true rfl) dX4_rebut_41
  · -- eq not
    have c_13 : ¬ (σ 14 (8 * ti + k) = 0) := fun h_ => c_13 ((x_eqZ (a := σ 14 (8 * ti + k)) (by omega)).mpr h_)
    exact y_throw (cls := xIae) (text := "the station is not BOUGHT") hx hb hst0 hown ce_iae (hts (.classLink RX4 62 "java/lang/IllegalArgumentException") (by decide +kernel)) (hts (.initialized "java/lang/IllegalArgumentException") (by decide +kernel)) (fun w h => hts w (List.mem_cons_of_mem _ (List.mem_append_left _ (List.mem_append_right _ h)))) (by decide +kernel) hW (hl.1.trans hml.symm) dX4_rebut_16 dX4_rebut_19 dX4_rebut_20 dX4_rebut_22 dX4_rebut_25 ⟨hout, hlocks⟩ (Nat.le_of_ble_eq_true rfl) (Nat.le_of_ble_eq_true rfl) ⟨Nat.le_of_ble_eq_true rfl, Nat.le_of_ble_eq_true rfl⟩ (px2 (pS_of hti h12 hk h8) (by rw [xn_nI (by omega), xn_nI (by omega)]; exact c_13) rfl) ⟨Nat.le_of_ble_eq_true rfl, Nat.le_of_ble_eq_true rfl⟩

set_option maxHeartbeats 4000000 in
set_option maxRecDepth 100000 in
theorem c_X4_settle (l : Launch) (hst0 : l.stackTraces = false) (D : xD) (sa : Nat → Nat) (xa : xA) (G0 : xG) (σ : Sg) (τ : Tg) (hg : Gd σ) (hL : LL σ τ) (hT : TE σ τ) (t x : Int32) (bn : Nat) (hbn : bn < 2) : xXi l yX4_settle wsX4_settle ({ frames := 18, cells := 2, slots := 12, locals := 600 } : Room) D sa xa (xGs G0 D xa σ τ) [.ref (xa 0 0), .int t, .int x, .int (nI bn)] (fun r u => (gk (pS σ t x) True True) 0 ∧ xPo D xa G0 (t_settle σ t x bn 0) (tv r (σ 18 (8 * xn t + xn x) = 1)) u) (pxk (gk (pS σ t x) True True) xIob xIob xIob) 2 12 := by
  have hB := hg.1
  have h5 := hg.2.1.1
  have h7 := hg.2.1.2.1
  have h12 := hg.2.1.2.2.1
  have hy0 := hg.2.1.2.2.2.1
  have hy1 := hg.2.1.2.2.2.2
  have hm := hg.hm
  have hs8 := hg.hs8
  intro sz
  refine vx_ofW (cc := cX4_settle) (maxL := 6) (ret := (some .boolean)) (by decide +kernel) rfl ?_
  intro p e s m args below meth c s₁ B hml hout hv
  obtain ⟨rfl, hsz, hv2⟩ := hv
  subst hsz
  have hx := B.exec
  have hb := B.bytes
  have hr := B.returns
  have hts := atoms_spec (ws := wsX4_settle) B.pre
  have hown : s.vm.findClass RX4 = some m.cls := findClass_of_methodNamed B.named
  have hlocks := B.notSynchronized
  have hin2 : ∀ w ∈ wsX20, w ∈ wsX4_settle := by decide +kernel
  have hin3 : ∀ w ∈ wsX30, w ∈ wsX4_settle := by decide +kernel
  have hin4 : ∀ w ∈ wsX40, w ∈ wsX4_settle := by decide +kernel
  have hW := xW.start (s := s) ⟨rfl, hv2⟩
  clear hv2
  generalize xAw xa (xGs G0 D xa σ τ) s.heap.size = A at hW ⊢
  have hl := lv_entry ([.ref (xa 0 0), .int (t), .int (x), .int (nI (bn))]) (n := 6) (Nat.le_of_ble_eq_true rfl)
  rw [lg_entry_eq]
  generalize (lg_sl ([.ref (xa 0 0), .int (t), .int (x), .int (nI (bn))]) ++ List.replicate (6 - (lg_sl ([.ref (xa 0 0), .int (t), .int (x), .int (nI (bn))])).length) Slot.unset).toArray = ls at hl ⊢
  have hl : lv_has ls 6 [(0, .ref (xa 0 0)), (1, .int (t)), (2, .int (x)), (3, .int (nI (bn)))] := hl
  refine lv_aload_n hx hb dX4_settle_0 rfl (lv_at hl 0 rfl) ?_
  refine lv_iload_n hx hb dX4_settle_1 rfl (lv_at hl 1 rfl) ?_
  refine lv_iload_n hx hb dX4_settle_2 rfl (lv_at hl 2 rfl) ?_
  refine yv_r (k := 0) (i := 0) (As := [.int (t), .int (x)]) (rest := []) ⟨hx, hb, hml, hown, hts⟩ (c_X4_stationNumbered l hst0 D sa xa G0 σ τ hg hL t x) (cwV 2 hts gX4_settle_X4_stationNumbered rfl rfl rfl (by decide +kernel) ⟨Nat.le_of_ble_eq_true rfl, Nat.le_of_ble_eq_true rfl⟩) ⟨hout, hlocks⟩ (fun E h => px1 h.2 h.1) ⟨Nat.le_of_ble_eq_true rfl, Nat.le_of_ble_eq_true rfl⟩ hW (xg_x G0 D xa σ τ) rfl rfl rfl rfl hl.1 (Nat.le_of_ble_eq_true rfl) dX4_settle_3 ⟨Nat.le_of_ble_eq_true rfl, Nat.le_of_ble_eq_true rfl⟩ (fun r_3 xa1 G1 H locs hp hW => ?_)
  obtain ⟨ti, k, hti, hk, rfl, rfl, ha_3, hu⟩ := hp
  cases hu
  subst ha_3
  have h8 := hs8 ti
  have sk := (hg.2.2.2.2.1 ti hti).2.2 k hk
  refine lv_astore (lv' := [(4, .ref (xa 15 (8 * ti + k))), (0, .ref (xa 0 0)), (1, .int (nI (ti))), (2, .int (nI (k))), (3, .int (nI (bn)))]) hx hb dX4_settle_6 hl (by decide) rfl (fun ls hl => ?_)
  have hl : lv_has ls 6 [(0, .ref (xa 0 0)), (1, .int (nI (ti))), (2, .int (nI (k))), (3, .int (nI (bn))), (4, .ref (xa 15 (8 * ti + k)))] := lv_sub hl [1, 2, 3, 4, 0] rfl
  refine lv_aload hx hb dX4_settle_8 (lv_at hl 4 rfl) ?_
  refine x_get hx hb hts hin2 hown hW 15 (8 * ti + k) (xg_s G0 D xa σ τ (i := 8 * ti + k) (lvS_of hti hk h8)) rfl 6 (by decide) (hts (.fieldLink RX4 138 "Restitutory$Station" "settled" "Z") (by decide +kernel)) rfl (v := .int (nI (σ 18 (8 * ti + k)))) (rfl) dX4_settle_10 ?_
  have b_10 := hB 18 (8 * ti + k)
  refine lv_istore (lv' := [(5, .int (nI (σ 18 (8 * ti + k)))), (0, .ref (xa 0 0)), (1, .int (nI (ti))), (2, .int (nI (k))), (3, .int (nI (bn))), (4, .ref (xa 15 (8 * ti + k)))]) hx hb dX4_settle_13 hl (by decide) rfl (fun ls hl => ?_)
  have hl : lv_has ls 6 [(0, .ref (xa 0 0)), (1, .int (nI (ti))), (2, .int (nI (k))), (3, .int (nI (bn))), (4, .ref (xa 15 (8 * ti + k))), (5, .int (nI (σ 18 (8 * ti + k))))] := lv_sub hl [1, 2, 3, 4, 5, 0] rfl
  refine lv_aload hx hb dX4_settle_15 (lv_at hl 4 rfl) ?_
  refine lv_iload_n hx hb dX4_settle_17 rfl (lv_at hl 3 rfl) ?_
  refine x_put (ty := .boolean) (v := .int (nI (bn))) hx hb hts hin2 tyX2 tyX2_ok nmX2 hown hW 15 (8 * ti + k) (fs := sfs xa σ τ (8 * ti + k)) (xg_s G0 D xa σ τ (i := 8 * ti + k) (lvS_of hti hk h8)) rfl 6 (by decide) (hts (.fieldLink RX4 138 "Restitutory$Station" "settled" "Z") (by decide +kernel)) rfl rfl (by decide +kernel) (tv.ofNat (by omega)).nar (by rcases (show bn = 0 ∨ bn = 1 by omega) with h_ | h_ <;> rw [h_] <;> rfl) (Nat.le_of_ble_eq_true rfl) dX4_settle_18 fun H locs hW => ?_
  have hW := hW.eqG (xf_set G0 D xa (σ := σ) (τ := τ) (i := 8 * ti + k) (v := bn) (lvS_of hti hk h8)).symm
  refine lv_iload hx hb dX4_settle_21 (lv_at hl 5 rfl) ?_
  exact ye_i hx hb hr (tv.ofNat (n := σ 18 (8 * ti + k)) (by omega)).nar hlocks hW ⟨gk.mk0 (pS_of hti h12 hk h8) trivial trivial, xa, τ, fun _ _ _ => rfl, by rw [show t_settle σ (nI ti) (nI k) bn 0 = sup σ 18 (8 * ti + k) bn by unfold t_settle; rw [if_pos rfl, xn_nI (by omega), xn_nI (by omega)]], hL, hT, by rw [xn_nI (by omega), xn_nI (by omega)]; exact tv.ofNat sk.2.2.2.2.2.2⟩ (Nat.le_of_ble_eq_true rfl) (Nat.le_of_ble_eq_true rfl) dX4_settle_23
