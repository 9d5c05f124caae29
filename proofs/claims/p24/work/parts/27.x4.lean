set_option maxHeartbeats 4000000 in
set_option maxRecDepth 100000 in
theorem c_X4_isPersecuted (l : Launch) (hst0 : l.stackTraces = false) (D : xD) (sa : Nat → Nat) (xa : xA) (G0 : xG) (σ : Sg) (τ : Tg) (hg : Gd σ) (hL : LL σ τ) (x a y : Int32) : xXi l yX4_isPersecuted wsX4_isPersecuted ({ frames := 16, cells := 3, slots := 18, locals := 500 } : Room) D sa xa (xGs G0 D xa σ τ) [.ref (xa 0 0), .int x, .int a, .int y] (fun r u => (gk (pP σ x ∧ pL a) (rg y 1900 2100) True) 0 ∧ u = (xa, xGs G0 D xa σ τ) ∧ tv r (sPers σ (σ 1 (xn x)) (xn a) (xn y))) (pxk (gk (pP σ x ∧ pL a) (rg y 1900 2100) True) xIob xIae xIae) 3 18 := by
  have hB := hg.1
  have h5 := hg.2.1.1
  have h7 := hg.2.1.2.1
  have h12 := hg.2.1.2.2.1
  have hy0 := hg.2.1.2.2.2.1
  have hy1 := hg.2.1.2.2.2.2
  have hm := hg.hm
  have hs8 := hg.hs8
  intro sz
  refine vx_ofW (cc := cX4_isPersecuted) (maxL := 5) (ret := (some .boolean)) (by decide +kernel) rfl ?_
  intro p e s m args below meth c s₁ B hml hout hv
  obtain ⟨rfl, hsz, hv2⟩ := hv
  subst hsz
  have hx := B.exec
  have hb := B.bytes
  have hr := B.returns
  have hts := atoms_spec (ws := wsX4_isPersecuted) B.pre
  have hown : s.vm.findClass RX4 = some m.cls := findClass_of_methodNamed B.named
  have hlocks := B.notSynchronized
  have hin4 : ∀ w ∈ wsX40, w ∈ wsX4_isPersecuted := by decide +kernel
  have hin1 : ∀ w ∈ wsX10, w ∈ wsX4_isPersecuted := by decide +kernel
  have hin0 : ∀ w ∈ wsX00, w ∈ wsX4_isPersecuted := by decide +kernel
  have hW := xW.start (s := s) ⟨rfl, hv2⟩
  clear hv2
  generalize xAw xa (xGs G0 D xa σ τ) s.heap.size = A at hW ⊢
  have hl := lv_entry ([.ref (xa 0 0), .int (x), .int (a), .int (y)]) (n := 5) (Nat.le_of_ble_eq_true rfl)
  rw [lg_entry_eq]
  generalize (lg_sl ([.ref (xa 0 0), .int (x), .int (a), .int (y)]) ++ List.replicate (5 - (lg_sl ([.ref (xa 0 0), .int (x), .int (a), .int (y)])).length) Slot.unset).toArray = ls at hl ⊢
  have hl : lv_has ls 5 [(0, .ref (xa 0 0)), (1, .int (x)), (2, .int (a)), (3, .int (y))] := hl
  refine lv_aload_n hx hb dX4_isPersecuted_0 rfl (lv_at hl 0 rfl) ?_
  refine lv_iload_n hx hb dX4_isPersecuted_1 rfl (lv_at hl 1 rfl) ?_
  refine yv_r (k := 0) (i := 0) (As := [.int (x)]) (rest := []) ⟨hx, hb, hml, hown, hts⟩ (c_X4_personNumbered l hst0 D sa xa G0 σ τ hg hL x) (cwV 1 hts gX4_isPersecuted_X4_personNumbered rfl rfl rfl (by decide +kernel) ⟨Nat.le_of_ble_eq_true rfl, Nat.le_of_ble_eq_true rfl⟩) ⟨hout, hlocks⟩ (fun E h => px1 (fun hh => h.2 hh.1) h.1) ⟨Nat.le_of_ble_eq_true rfl, Nat.le_of_ble_eq_true rfl⟩ hW (xg_x G0 D xa σ τ) rfl rfl rfl rfl hl.1 (Nat.le_of_ble_eq_true rfl) dX4_isPersecuted_2 ⟨Nat.le_of_ble_eq_true rfl, Nat.le_of_ble_eq_true rfl⟩ (fun r_2 xa1 G1 H locs hp hW => ?_)
  obtain ⟨i, hi, rfl, ha_2, hu⟩ := hp
  cases hu
  subst ha_2
  refine lv_astore (lv' := [(4, .ref (xa 10 i)), (0, .ref (xa 0 0)), (1, .int (nI (i))), (2, .int (a)), (3, .int (y))]) hx hb dX4_isPersecuted_5 hl (by decide) rfl (fun ls hl => ?_)
  have hl : lv_has ls 5 [(0, .ref (xa 0 0)), (1, .int (nI (i))), (2, .int (a)), (3, .int (y)), (4, .ref (xa 10 i))] := lv_sub hl [1, 2, 3, 4, 0] rfl
  refine lv_iload_n hx hb dX4_isPersecuted_7 rfl (lv_at hl 2 rfl) ?_
  refine ys_v (As := [.int (a)]) (rest := []) ⟨hx, hb, hml, hown, hts⟩ (c_X4_requireLand l hst0 D sa xa (xGs G0 D xa σ τ) a) (va_cwS 1 hts gX4_isPersecuted_X4_requireLand rfl rfl rfl (by decide +kernel) ⟨Nat.le_of_ble_eq_true rfl, Nat.le_of_ble_eq_true rfl⟩) ⟨hout, hlocks⟩ (fun E h => px1 (fun hh => h.2 hh.2) h.1) ⟨Nat.le_of_ble_eq_true rfl, Nat.le_of_ble_eq_true rfl⟩ hW rfl rfl hl.1 (Nat.le_of_ble_eq_true rfl) dX4_isPersecuted_8 ⟨Nat.le_of_ble_eq_true rfl, Nat.le_of_ble_eq_true rfl⟩ (fun xa1 G1 H locs hp hW => ?_)
  obtain ⟨hu, hq_8⟩ := hp
  cases hu
  have hLa := hq_8
  refine lv_iload_n hx hb dX4_isPersecuted_11 rfl (lv_at hl 3 rfl) ?_
  refine lv_sipush (v := nI (1900)) hx hb dX4_isPersecuted_12 (by decide +kernel) ?_
  refine lv_sipush (v := nI (2100)) hx hb dX4_isPersecuted_15 (by decide +kernel) ?_
  refine ys_v (As := [.int (y), .int (nI (1900)), .int (nI (2100))]) (rest := []) ⟨hx, hb, hml, hown, hts⟩ (c_X4_requireRange l hst0 D sa xa (xGs G0 D xa σ τ) y (nI (1900)) (nI (2100))) (va_cwS 3 hts gX4_isPersecuted_X4_requireRange rfl rfl rfl (by decide +kernel) ⟨Nat.le_of_ble_eq_true rfl, Nat.le_of_ble_eq_true rfl⟩) ⟨hout, hlocks⟩ (fun E h => px2 ⟨(pP_of hi h5), hLa⟩ (fun hh => h.2 ((rg_in (by omega) (by omega)).mpr hh)) h.1) ⟨Nat.le_of_ble_eq_true rfl, Nat.le_of_ble_eq_true rfl⟩ hW rfl rfl hl.1 (Nat.le_of_ble_eq_true rfl) dX4_isPersecuted_18 ⟨Nat.le_of_ble_eq_true rfl, Nat.le_of_ble_eq_true rfl⟩ (fun xa1 G1 H locs hp hW => ?_)
  obtain ⟨hu, hq_18⟩ := hp
  cases hu
  have hRy := (rg_in (a := 1900) (b := 2100) (by omega) (by omega)).mp hq_18
  have hz := hRy
  unfold rg at hz
  have hza := hLa
  unfold pL at hza
  obtain ⟨ai, hai, rfl⟩ := x_nat (n := 5) (x := a) (by omega) (by omega)
  obtain ⟨yi, hyi, rfl⟩ := x_nat (n := 2101) (x := y) (by omega) (by omega)
  refine lv_aload_n hx hb dX4_isPersecuted_21 rfl (lv_at hl 0 rfl) ?_
  refine lv_aload hx hb dX4_isPersecuted_22 (lv_at hl 4 rfl) ?_
  refine lv_iload_n hx hb dX4_isPersecuted_24 rfl (lv_at hl 2 rfl) ?_
  refine lv_iload_n hx hb dX4_isPersecuted_25 rfl (lv_at hl 3 rfl) ?_
  refine xv_i (k := 0) (i := 0) (As := [.ref (xa 10 i), .int (nI (ai)), .int (nI (yi))]) (rest := []) ⟨hx, hb, hml, hown, hts⟩ (c_X4_isDarkFor l D sa xa G0 σ τ hg i ai yi hi (by omega) (by omega)) (cwV 3 hts gX4_isPersecuted_X4_isDarkFor rfl rfl rfl (by decide +kernel) ⟨Nat.le_of_ble_eq_true rfl, Nat.le_of_ble_eq_true rfl⟩) hW (xg_x G0 D xa σ τ) rfl rfl rfl rfl hl.1 (Nat.le_of_ble_eq_true rfl) dX4_isPersecuted_26 ⟨Nat.le_of_ble_eq_true rfl, Nat.le_of_ble_eq_true rfl⟩ (fun r_26 xa1 G1 H locs hp hW => ?_)
  obtain ⟨hu, hr_26⟩ := hp
  cases hu
  exact ye_i hx hb hr hr_26.nar hlocks hW ⟨gk.mk0 ⟨(pP_of hi h5), hLa⟩ hRy trivial, rfl, by rw [xn_nI (by omega), xn_nI (by omega), xn_nI (by omega)]; exact hr_26⟩ (Nat.le_of_ble_eq_true rfl) (Nat.le_of_ble_eq_true rfl) dX4_isPersecuted_29

set_option maxHeartbeats 4000000 in
set_option maxRecDepth 100000 in
theorem c_X4_heirOf (l : Launch) (hst0 : l.stackTraces = false) (D : xD) (sa : Nat → Nat) (xa : xA) (G0 : xG) (σ : Sg) (τ : Tg) (hg : Gd σ) (hL : LL σ τ) (x : Int32) : xXi l yX4_heirOf wsX4_heirOf ({ frames := 26, cells := 1, slots := 6, locals := 1000 } : Room) D sa xa (xGs G0 D xa σ τ) [.ref (xa 0 0), .int x] (fun r u => (gk (pP σ x) True True) 0 ∧ u = (xa, xGs G0 D xa σ τ) ∧ r = oi (fh σ 3 (xn x))) (pxk (gk (pP σ x) True True) xIob xIob xIob) 1 6 := by
  have hB := hg.1
  have h5 := hg.2.1.1
  have h7 := hg.2.1.2.1
  have h12 := hg.2.1.2.2.1
  have hy0 := hg.2.1.2.2.2.1
  have hy1 := hg.2.1.2.2.2.2
  have hm := hg.hm
  have hs8 := hg.hs8
  intro sz
  refine vx_ofW (cc := cX4_heirOf) (maxL := 2) (ret := (some .int)) (by decide +kernel) rfl ?_
  intro p e s m args below meth c s₁ B hml hout hv
  obtain ⟨rfl, hsz, hv2⟩ := hv
  subst hsz
  have hx := B.exec
  have hb := B.bytes
  have hr := B.returns
  have hts := atoms_spec (ws := wsX4_heirOf) B.pre
  have hown : s.vm.findClass RX4 = some m.cls := findClass_of_methodNamed B.named
  have hlocks := B.notSynchronized
  have hin4 : ∀ w ∈ wsX40, w ∈ wsX4_heirOf := by decide +kernel
  have hin1 : ∀ w ∈ wsX10, w ∈ wsX4_heirOf := by decide +kernel
  have hW := xW.start (s := s) ⟨rfl, hv2⟩
  clear hv2
  generalize xAw xa (xGs G0 D xa σ τ) s.heap.size = A at hW ⊢
  have hl := lv_entry ([.ref (xa 0 0), .int (x)]) (n := 2) (Nat.le_of_ble_eq_true rfl)
  rw [lg_entry_eq]
  generalize (lg_sl ([.ref (xa 0 0), .int (x)]) ++ List.replicate (2 - (lg_sl ([.ref (xa 0 0), .int (x)])).length) Slot.unset).toArray = ls at hl ⊢
  have hl : lv_has ls 2 [(0, .ref (xa 0 0)), (1, .int (x))] := hl
  refine lv_aload_n hx hb dX4_heirOf_0 rfl (lv_at hl 0 rfl) ?_
  refine lv_iload_n hx hb dX4_heirOf_1 rfl (lv_at hl 1 rfl) ?_
  refine yv_r (k := 0) (i := 0) (As := [.int (x)]) (rest := []) ⟨hx, hb, hml, hown, hts⟩ (c_X4_personNumbered l hst0 D sa xa G0 σ τ hg hL x) (cwV 1 hts gX4_heirOf_X4_personNumbered rfl rfl rfl (by decide +kernel) ⟨Nat.le_of_ble_eq_true rfl, Nat.le_of_ble_eq_true rfl⟩) ⟨hout, hlocks⟩ (fun E h => px1 h.2 h.1) ⟨Nat.le_of_ble_eq_true rfl, Nat.le_of_ble_eq_true rfl⟩ hW (xg_x G0 D xa σ τ) rfl rfl rfl rfl hl.1 (Nat.le_of_ble_eq_true rfl) dX4_heirOf_2 ⟨Nat.le_of_ble_eq_true rfl, Nat.le_of_ble_eq_true rfl⟩ (fun r_2 xa1 G1 H locs hp hW => ?_)
  obtain ⟨i, hi, rfl, ha_2, hu⟩ := hp
  cases hu
  subst ha_2
  refine lv_iconst (v := nI (3)) hx hb dX4_heirOf_5 (by decide +kernel) ?_
  refine xs_q (As := [.ref (xa 10 i), .int (nI (3))]) (rest := []) ⟨hx, hb, hml, hown, hts⟩ (c_X4_livingHeir_3 l D sa xa G0 σ τ hg i hi) (va_cwS 2 hts gX4_heirOf_X4_livingHeir rfl rfl rfl (by decide +kernel) ⟨Nat.le_of_ble_eq_true rfl, Nat.le_of_ble_eq_true rfl⟩) hW rfl rfl hl.1 (Nat.le_of_ble_eq_true rfl) dX4_heirOf_6 ⟨Nat.le_of_ble_eq_true rfl, Nat.le_of_ble_eq_true rfl⟩ (fun r_6 xa1 G1 H locs hp hW => ?_)
  obtain ⟨hu, hr_6⟩ := hp
  cases hu
  subst hr_6
  refine xs_i (As := [va_rf ((fh σ 3 i).map (xa 10))]) (rest := []) ⟨hx, hb, hml, hown, hts⟩ (c_X4_numberOf l D sa xa G0 σ τ hg (fh σ 3 i) (fun a h => fh_lt hg 3 i a hi h)) (va_cwS 1 hts gX4_heirOf_X4_numberOf rfl rfl rfl (by decide +kernel) ⟨Nat.le_of_ble_eq_true rfl, Nat.le_of_ble_eq_true rfl⟩) hW rfl rfl hl.1 (Nat.le_of_ble_eq_true rfl) dX4_heirOf_9 ⟨Nat.le_of_ble_eq_true rfl, Nat.le_of_ble_eq_true rfl⟩ (fun r_9 xa1 G1 H locs hp hW => ?_)
  obtain ⟨hu, hr_9⟩ := hp
  cases hu
  exact ye_i hx hb hr rfl hlocks hW ⟨gk.mk0 (pP_of hi h5) trivial trivial, rfl, by rw [xn_nI (by omega)]; exact hr_9⟩ (Nat.le_of_ble_eq_true rfl) (Nat.le_of_ble_eq_true rfl) dX4_heirOf_12

set_option maxHeartbeats 4000000 in
set_option maxRecDepth 100000 in
theorem c_X4_likeness (l : Launch) (hst0 : l.stackTraces = false) (D : xD) (sa : Nat → Nat) (xa : xA) (G0 : xG) (σ : Sg) (τ : Tg) (hg : Gd σ) (hL : LL σ τ) (t q : Int32) : xXi l yX4_likeness wsX4_likeness ({ frames := 16, cells := 2, slots := 12, locals := 500 } : Room) D sa xa (xGs G0 D xa σ τ) [.ref (xa 0 0), .int t, .int q] (fun r u => (gk (pT σ t ∧ pT σ q) True True) 0 ∧ u = (xa, xGs G0 D xa σ τ) ∧ r.toInt = lk σ (xn t) (xn q)) (pxk (gk (pT σ t ∧ pT σ q) True True) xIob xIob xIob) 2 12 := by
  have hB := hg.1
  have h5 := hg.2.1.1
  have h7 := hg.2.1.2.1
  have h12 := hg.2.1.2.2.1
  have hy0 := hg.2.1.2.2.2.1
  have hy1 := hg.2.1.2.2.2.2
  have hm := hg.hm
  have hs8 := hg.hs8
  intro sz
  refine vx_ofW (cc := cX4_likeness) (maxL := 3) (ret := (some .int)) (by decide +kernel) rfl ?_
  intro p e s m args below meth c s₁ B hml hout hv
  obtain ⟨rfl, hsz, hv2⟩ := hv
  subst hsz
  have hx := B.exec
  have hb := B.bytes
  have hr := B.returns
  have hts := atoms_spec (ws := wsX4_likeness) B.pre
  have hown : s.vm.findClass RX4 = some m.cls := findClass_of_methodNamed B.named
  have hlocks := B.notSynchronized
  have hin4 : ∀ w ∈ wsX40, w ∈ wsX4_likeness := by decide +kernel
  have hin3 : ∀ w ∈ wsX30, w ∈ wsX4_likeness := by decide +kernel
  have hW := xW.start (s := s) ⟨rfl, hv2⟩
  clear hv2
  generalize xAw xa (xGs G0 D xa σ τ) s.heap.size = A at hW ⊢
  have hl := lv_entry ([.ref (xa 0 0), .int (t), .int (q)]) (n := 3) (Nat.le_of_ble_eq_true rfl)
  rw [lg_entry_eq]
  generalize (lg_sl ([.ref (xa 0 0), .int (t), .int (q)]) ++ List.replicate (3 - (lg_sl ([.ref (xa 0 0), .int (t), .int (q)])).length) Slot.unset).toArray = ls at hl ⊢
  have hl : lv_has ls 3 [(0, .ref (xa 0 0)), (1, .int (t)), (2, .int (q))] := hl
  refine lv_aload_n hx hb dX4_likeness_0 rfl (lv_at hl 0 rfl) ?_
  refine lv_iload_n hx hb dX4_likeness_1 rfl (lv_at hl 1 rfl) ?_
  refine yv_r (k := 0) (i := 0) (As := [.int (t)]) (rest := []) ⟨hx, hb, hml, hown, hts⟩ (c_X4_thingNumbered l hst0 D sa xa G0 σ τ hg hL t) (cwV 1 hts gX4_likeness_X4_thingNumbered rfl rfl rfl (by decide +kernel) ⟨Nat.le_of_ble_eq_true rfl, Nat.le_of_ble_eq_true rfl⟩) ⟨hout, hlocks⟩ (fun E h => px1 (fun hh => h.2 hh.1) h.1) ⟨Nat.le_of_ble_eq_true rfl, Nat.le_of_ble_eq_true rfl⟩ hW (xg_x G0 D xa σ τ) rfl rfl rfl rfl hl.1 (Nat.le_of_ble_eq_true rfl) dX4_likeness_2 ⟨Nat.le_of_ble_eq_true rfl, Nat.le_of_ble_eq_true rfl⟩ (fun r_2 xa1 G1 H locs hp hW => ?_)
  obtain ⟨ti, hti, rfl, ha_2, hu⟩ := hp
  cases hu
  subst ha_2
  refine lv_aload_n hx hb dX4_likeness_5 rfl (lv_at hl 0 rfl) ?_
  refine lv_iload_n hx hb dX4_likeness_6 rfl (lv_at hl 2 rfl) ?_
  refine yv_r (k := 0) (i := 0) (As := [.int (q)]) (rest := [.ref (xa 13 ti)]) ⟨hx, hb, hml, hown, hts⟩ (c_X4_thingNumbered l hst0 D sa xa G0 σ τ hg hL q) (cwV 1 hts gX4_likeness_X4_thingNumbered rfl rfl rfl (by decide +kernel) ⟨Nat.le_of_ble_eq_true rfl, Nat.le_of_ble_eq_true rfl⟩) ⟨hout, hlocks⟩ (fun E h => px1 (fun hh => h.2 hh.2) h.1) ⟨Nat.le_of_ble_eq_true rfl, Nat.le_of_ble_eq_true rfl⟩ hW (xg_x G0 D xa σ τ) rfl rfl rfl rfl hl.1 (Nat.le_of_ble_eq_true rfl) dX4_likeness_7 ⟨Nat.le_of_ble_eq_true rfl, Nat.le_of_ble_eq_true rfl⟩ (fun r_7 xa1 G1 H locs hp hW => ?_)
  obtain ⟨qi, hqi, rfl, ha_7, hu⟩ := hp
  cases hu
  subst ha_7
  refine xv_i (k := 13) (i := ti) (As := [.ref (xa 13 qi)]) (rest := []) ⟨hx, hb, hml, hown, hts⟩ (c_X3_likenessTo l D sa xa G0 σ τ hg ti qi hti hqi) (cwV 1 hts gX4_likeness_X3_likenessTo rfl rfl rfl (by decide +kernel) ⟨Nat.le_of_ble_eq_true rfl, Nat.le_of_ble_eq_true rfl⟩) hW (xg_t G0 D xa σ τ (i := ti) (by omega)) rfl rfl rfl rfl hl.1 (Nat.le_of_ble_eq_true rfl) dX4_likeness_10 ⟨Nat.le_of_ble_eq_true rfl, Nat.le_of_ble_eq_true rfl⟩ (fun r_10 xa1 G1 H locs hp hW => ?_)
  obtain ⟨hu, hr_10⟩ := hp
  cases hu
  exact ye_i hx hb hr rfl hlocks hW ⟨gk.mk0 ⟨(pT_of hti h12), (pT_of hqi h12)⟩ trivial trivial, rfl, by rw [xn_nI (by omega), xn_nI (by omega)]; exact hr_10⟩ (Nat.le_of_ble_eq_true rfl) (Nat.le_of_ble_eq_true rfl) dX4_likeness_13

set_option maxHeartbeats 4000000 in
set_option maxRecDepth 100000 in
theorem c_X4_holder (l : Launch) (hst0 : l.stackTraces = false) (D : xD) (sa : Nat → Nat) (xa : xA) (G0 : xG) (σ : Sg) (τ : Tg) (hg : Gd σ) (hL : LL σ τ) (t : Int32) : xXi l yX4_holder wsX4_holder ({ frames := 16, cells := 1, slots := 6, locals := 500 } : Room) D sa xa (xGs G0 D xa σ τ) [.ref (xa 0 0), .int t] (fun r u => (gk (pT σ t) True True) 0 ∧ u = (xa, xGs G0 D xa σ τ) ∧ r = oi (hold σ (xn t))) (pxk (gk (pT σ t) True True) xIob xIob xIob) 1 6 := by
  have hB := hg.1
  have h5 := hg.2.1.1
  have h7 := hg.2.1.2.1
  have h12 := hg.2.1.2.2.1
  have hy0 := hg.2.1.2.2.2.1
  have hy1 := hg.2.1.2.2.2.2
  have hm := hg.hm
  have hs8 := hg.hs8
  intro sz
  refine vx_ofW (cc := cX4_holder) (maxL := 2) (ret := (some .int)) (by decide +kernel) rfl ?_
  intro p e s m args below meth c s₁ B hml hout hv
  obtain ⟨rfl, hsz, hv2⟩ := hv
  subst hsz
  have hx := B.exec
  have hb := B.bytes
  have hr := B.returns
  have hts := atoms_spec (ws := wsX4_holder) B.pre
  have hown : s.vm.findClass RX4 = some m.cls := findClass_of_methodNamed B.named
  have hlocks := B.notSynchronized
  have hin4 : ∀ w ∈ wsX40, w ∈ wsX4_holder := by decide +kernel
  have hin3 : ∀ w ∈ wsX30, w ∈ wsX4_holder := by decide +kernel
  have hin2 : ∀ w ∈ wsX20, w ∈ wsX4_holder := by decide +kernel
  have hin1 : ∀ w ∈ wsX10, w ∈ wsX4_holder := by decide +kernel
  have hW := xW.start (s := s) ⟨rfl, hv2⟩
  clear hv2
  generalize xAw xa (xGs G0 D xa σ τ) s.heap.size = A at hW ⊢
  have hl := lv_entry ([.ref (xa 0 0), .int (t)]) (n := 2) (Nat.le_of_ble_eq_true rfl)
  rw [lg_entry_eq]
  generalize (lg_sl ([.ref (xa 0 0), .int (t)]) ++ List.replicate (2 - (lg_sl ([.ref (xa 0 0), .int (t)])).length) Slot.unset).toArray = ls at hl ⊢
  have hl : lv_has ls 2 [(0, .ref (xa 0 0)), (1, .int (t))] := hl
  refine lv_aload_n hx hb dX4_holder_0 rfl (lv_at hl 0 rfl) ?_
  refine lv_iload_n hx hb dX4_holder_1 rfl (lv_at hl 1 rfl) ?_
  refine yv_r (k := 0) (i := 0) (As := [.int (t)]) (rest := []) ⟨hx, hb, hml, hown, hts⟩ (c_X4_thingNumbered l hst0 D sa xa G0 σ τ hg hL t) (cwV 1 hts gX4_holder_X4_thingNumbered rfl rfl rfl (by decide +kernel) ⟨Nat.le_of_ble_eq_true rfl, Nat.le_of_ble_eq_true rfl⟩) ⟨hout, hlocks⟩ (fun E h => px1 h.2 h.1) ⟨Nat.le_of_ble_eq_true rfl, Nat.le_of_ble_eq_true rfl⟩ hW (xg_x G0 D xa σ τ) rfl rfl rfl rfl hl.1 (Nat.le_of_ble_eq_true rfl) dX4_holder_2 ⟨Nat.le_of_ble_eq_true rfl, Nat.le_of_ble_eq_true rfl⟩ (fun r_2 xa1 G1 H locs hp hW => ?_)
  obtain ⟨ti, hti, rfl, ha_2, hu⟩ := hp
  cases hu
  subst ha_2
  refine xv_q (k := 13) (i := ti) (As := []) (rest := []) ⟨hx, hb, hml, hown, hts⟩ (c_X3_lastParty l D sa xa G0 σ τ hg hL ti (by omega)) (cwV 0 hts gX4_holder_X3_lastParty rfl rfl rfl (by decide +kernel) ⟨Nat.le_of_ble_eq_true rfl, Nat.le_of_ble_eq_true rfl⟩) hW (xg_t G0 D xa σ τ (i := ti) (by omega)) rfl rfl rfl rfl hl.1 (Nat.le_of_ble_eq_true rfl) dX4_holder_5 ⟨Nat.le_of_ble_eq_true rfl, Nat.le_of_ble_eq_true rfl⟩ (fun r_5 xa1 G1 H locs hp hW => ?_)
  obtain ⟨hu, hr_5⟩ := hp
  cases hu
  subst hr_5
  refine xs_i (As := [va_rf ((hold σ ti).map (xa 10))]) (rest := []) ⟨hx, hb, hml, hown, hts⟩ (c_X4_numberOf l D sa xa G0 σ τ hg (hold σ ti) (fun a h => hold_lt hg hti h)) (va_cwS 1 hts gX4_holder_X4_numberOf rfl rfl rfl (by decide +kernel) ⟨Nat.le_of_ble_eq_true rfl, Nat.le_of_ble_eq_true rfl⟩) hW rfl rfl hl.1 (Nat.le_of_ble_eq_true rfl) dX4_holder_8 ⟨Nat.le_of_ble_eq_true rfl, Nat.le_of_ble_eq_true rfl⟩ (fun r_8 xa1 G1 H locs hp hW => ?_)
  obtain ⟨hu, hr_8⟩ := hp
  cases hu
  exact ye_i hx hb hr rfl hlocks hW ⟨gk.mk0 (pT_of hti h12) trivial trivial, rfl, by rw [xn_nI (by omega)]; exact hr_8⟩ (Nat.le_of_ble_eq_true rfl) (Nat.le_of_ble_eq_true rfl) dX4_holder_11

set_option maxHeartbeats 4000000 in
set_option maxRecDepth 100000 in
theorem c_X4_isLoss (l : Launch) (hst0 : l.stackTraces = false) (D : xD) (sa : Nat → Nat) (xa : xA) (G0 : xG) (σ : Sg) (τ : Tg) (hg : Gd σ) (hL : LL σ τ) (t x : Int32) : xXi l yX4_isLoss wsX4_isLoss ({ frames := 18, cells := 2, slots := 12, locals := 600 } : Room) D sa xa (xGs G0 D xa σ τ) [.ref (xa 0 0), .int t, .int x] (fun r u => (gk (pS σ t x) True True) 0 ∧ u = (xa, xGs G0 D xa σ τ) ∧ tv r (lossT σ (xn t) (xn x))) (pxk (gk (pS σ t x) True True) xIob xIob xIob) 2 12 := by
  have hB := hg.1
  have h5 := hg.2.1.1
  have h7 := hg.2.1.2.1
  have h12 := hg.2.1.2.2.1
  have hy0 := hg.2.1.2.2.2.1
  have hy1 := hg.2.1.2.2.2.2
  have hm := hg.hm
  have hs8 := hg.hs8
  intro sz
  refine vx_ofW (cc := cX4_isLoss) (maxL := 3) (ret := (some .boolean)) (by decide +kernel) rfl ?_
  intro p e s m args below meth c s₁ B hml hout hv
  obtain ⟨rfl, hsz, hv2⟩ := hv
  subst hsz
  have hx := B.exec
  have hb := B.bytes
  have hr := B.returns
  have hts := atoms_spec (ws := wsX4_isLoss) B.pre
  have hown : s.vm.findClass RX4 = some m.cls := findClass_of_methodNamed B.named
  have hlocks := B.notSynchronized
  have hin3 : ∀ w ∈ wsX30, w ∈ wsX4_isLoss := by decide +kernel
  have hin4 : ∀ w ∈ wsX40, w ∈ wsX4_isLoss := by decide +kernel
  have hin2 : ∀ w ∈ wsX20, w ∈ wsX4_isLoss := by decide +kernel
  have hin1 : ∀ w ∈ wsX10, w ∈ wsX4_isLoss := by decide +kernel
  have hin0 : ∀ w ∈ wsX00, w ∈ wsX4_isLoss := by decide +kernel
  have hW := xW.start (s := s) ⟨rfl, hv2⟩
  clear hv2
  generalize xAw xa (xGs G0 D xa σ τ) s.heap.size = A at hW ⊢
  have hl := lv_entry ([.ref (xa 0 0), .int (t), .int (x)]) (n := 3) (Nat.le_of_ble_eq_true rfl)
  rw [lg_entry_eq]
  generalize (lg_sl ([.ref (xa 0 0), .int (t), .int (x)]) ++ List.replicate (3 - (lg_sl ([.ref (xa 0 0), .int (t), .int (x)])).length) Slot.unset).toArray = ls at hl ⊢
  have hl : lv_has ls 3 [(0, .ref (xa 0 0)), (1, .int (t)), (2, .int (x))] := hl
  refine lv_aload_n hx hb dX4_isLoss_0 rfl (lv_at hl 0 rfl) ?_
  refine lv_aload_n hx hb dX4_isLoss_1 rfl (lv_at hl 0 rfl) ?_
  refine lv_iload_n hx hb dX4_isLoss_2 rfl (lv_at hl 1 rfl) ?_
  refine lv_iload_n hx hb dX4_isLoss_3 rfl (lv_at hl 2 rfl) ?_
  refine yv_r (k := 0) (i := 0) (As := [.int (t), .int (x)]) (rest := [.ref (xa 0 0)]) ⟨hx, hb, hml, hown, hts⟩ (c_X4_stationNumbered l hst0 D sa xa G0 σ τ hg hL t x) (cwV 2 hts gX4_isLoss_X4_stationNumbered rfl rfl rfl (by decide +kernel) ⟨Nat.le_of_ble_eq_true rfl, Nat.le_of_ble_eq_true rfl⟩) ⟨hout, hlocks⟩ (fun E h => px1 h.2 h.1) ⟨Nat.le_of_ble_eq_true rfl, Nat.le_of_ble_eq_true rfl⟩ hW (xg_x G0 D xa σ τ) rfl rfl rfl rfl hl.1 (Nat.le_of_ble_eq_true rfl) dX4_isLoss_4 ⟨Nat.le_of_ble_eq_true rfl, Nat.le_of_ble_eq_true rfl⟩ (fun r_4 xa1 G1 H locs hp hW => ?_)
  obtain ⟨ti, k, hti, hk, rfl, rfl, ha_4, hu⟩ := hp
  cases hu
  subst ha_4
  have h8 := hs8 ti
  obtain ⟨q, hq, hqk⟩ := od_surj (yr := yrs σ ti) hk
  obtain rfl : ordr σ ti q = k := hqk
  refine xv_i (k := 0) (i := 0) (As := [.ref (xa 15 (8 * ti + ordr σ ti q))]) (rest := []) ⟨hx, hb, hml, hown, hts⟩ (c_X4_takesAway l D sa xa G0 σ τ hg hL ti q hti hq) (cwV 1 hts gX4_isLoss_X4_takesAway rfl rfl rfl (by decide +kernel) ⟨Nat.le_of_ble_eq_true rfl, Nat.le_of_ble_eq_true rfl⟩) hW (xg_x G0 D xa σ τ) rfl rfl rfl rfl hl.1 (Nat.le_of_ble_eq_true rfl) dX4_isLoss_7 ⟨Nat.le_of_ble_eq_true rfl, Nat.le_of_ble_eq_true rfl⟩ (fun r_7 xa1 G1 H locs hp hW => ?_)
  obtain ⟨hu, hr_7⟩ := hp
  cases hu
  exact ye_i hx hb hr hr_7.nar hlocks hW ⟨gk.mk0 (pS_of hti h12 hk h8) trivial trivial, rfl, by rw [xn_nI (by omega), xn_nI (by omega)]; exact hr_7.to ⟨fun h => ⟨q, hq, rfl, h⟩, fun ⟨q2, a1, a2, a3⟩ => by have := od_inj a1 hq a2; subst this; exact a3⟩⟩ (Nat.le_of_ble_eq_true rfl) (Nat.le_of_ble_eq_true rfl) dX4_isLoss_10

set_option maxHeartbeats 4000000 in
set_option maxRecDepth 100000 in
theorem c_X4_owner (l : Launch) (hst0 : l.stackTraces = false) (D : xD) (sa : Nat → Nat) (xa : xA) (G0 : xG) (σ : Sg) (τ : Tg) (hg : Gd σ) (hL : LL σ τ) (t : Int32) : xXi l yX4_owner wsX4_owner ({ frames := 28, cells := 1, slots := 6, locals := 1100 } : Room) D sa xa (xGs G0 D xa σ τ) [.ref (xa 0 0), .int t] (fun r u => (gk (pT σ t) True True) 0 ∧ u = (xa, xGs G0 D xa σ τ) ∧ ∃ o, r = oi o ∧ own σ (xn t) o) (pxk (gk (pT σ t) True True) xIob xIob xIob) 1 6 := by
  have hB := hg.1
  have h5 := hg.2.1.1
  have h7 := hg.2.1.2.1
  have h12 := hg.2.1.2.2.1
  have hy0 := hg.2.1.2.2.2.1
  have hy1 := hg.2.1.2.2.2.2
  have hm := hg.hm
  have hs8 := hg.hs8
  intro sz
  refine vx_ofW (cc := cX4_owner) (maxL := 2) (ret := (some .int)) (by decide +kernel) rfl ?_
  intro p e s m args below meth c s₁ B hml hout hv
  obtain ⟨rfl, hsz, hv2⟩ := hv
  subst hsz
  have hx := B.exec
  have hb := B.bytes
  have hr := B.returns
  have hts := atoms_spec (ws := wsX4_owner) B.pre
  have hown : s.vm.findClass RX4 = some m.cls := findClass_of_methodNamed B.named
  have hlocks := B.notSynchronized
  have hin4 : ∀ w ∈ wsX40, w ∈ wsX4_owner := by decide +kernel
  have hin3 : ∀ w ∈ wsX30, w ∈ wsX4_owner := by decide +kernel
  have hin2 : ∀ w ∈ wsX20, w ∈ wsX4_owner := by decide +kernel
  have hin1 : ∀ w ∈ wsX10, w ∈ wsX4_owner := by decide +kernel
  have hin0 : ∀ w ∈ wsX00, w ∈ wsX4_owner := by decide +kernel
  have hW := xW.start (s := s) ⟨rfl, hv2⟩
  clear hv2
  generalize xAw xa (xGs G0 D xa σ τ) s.heap.size = A at hW ⊢
  have hl := lv_entry ([.ref (xa 0 0), .int (t)]) (n := 2) (Nat.le_of_ble_eq_true rfl)
  rw [lg_entry_eq]
  generalize (lg_sl ([.ref (xa 0 0), .int (t)]) ++ List.replicate (2 - (lg_sl ([.ref (xa 0 0), .int (t)])).length) Slot.unset).toArray = ls at hl ⊢
  have hl : lv_has ls 2 [(0, .ref (xa 0 0)), (1, .int (t))] := hl
  refine lv_aload_n hx hb dX4_owner_0 rfl (lv_at hl 0 rfl) ?_
  refine lv_aload_n hx hb dX4_owner_1 rfl (lv_at hl 0 rfl) ?_
  refine lv_iload_n hx hb dX4_owner_2 rfl (lv_at hl 1 rfl) ?_
  refine yv_r (k := 0) (i := 0) (As := [.int (t)]) (rest := [.ref (xa 0 0)]) ⟨hx, hb, hml, hown, hts⟩ (c_X4_thingNumbered l hst0 D sa xa G0 σ τ hg hL t) (cwV 1 hts gX4_owner_X4_thingNumbered rfl rfl rfl (by decide +kernel) ⟨Nat.le_of_ble_eq_true rfl, Nat.le_of_ble_eq_true rfl⟩) ⟨hout, hlocks⟩ (fun E h => px1 h.2 h.1) ⟨Nat.le_of_ble_eq_true rfl, Nat.le_of_ble_eq_true rfl⟩ hW (xg_x G0 D xa σ τ) rfl rfl rfl rfl hl.1 (Nat.le_of_ble_eq_true rfl) dX4_owner_3 ⟨Nat.le_of_ble_eq_true rfl, Nat.le_of_ble_eq_true rfl⟩ (fun r_3 xa1 G1 H locs hp hW => ?_)
  obtain ⟨ti, hti, rfl, ha_3, hu⟩ := hp
  cases hu
  subst ha_3
  refine xv_q (k := 0) (i := 0) (As := [.ref (xa 13 ti)]) (rest := []) ⟨hx, hb, hml, hown, hts⟩ (c_X4_titleFromFirst l D sa xa G0 σ τ hg hL ti (hti)) (cwV 1 hts gX4_owner_X4_titleFromFirst rfl rfl rfl (by decide +kernel) ⟨Nat.le_of_ble_eq_true rfl, Nat.le_of_ble_eq_true rfl⟩) hW (xg_x G0 D xa σ τ) rfl rfl rfl rfl hl.1 (Nat.le_of_ble_eq_true rfl) dX4_owner_6 ⟨Nat.le_of_ble_eq_true rfl, Nat.le_of_ble_eq_true rfl⟩ (fun r_6 xa1 G1 H locs hp hW => ?_)
  obtain ⟨hu, hr_6⟩ := hp
  cases hu
  obtain ⟨ot, ho1, ho2⟩ : ∃ ot : Option Nat, r_6 = ot.map (xa 10) ∧ ((σ 11 ti = 0 ∧ ot = none) ∨ (0 < σ 11 ti ∧ ∃ t, ttl σ ti (ordr σ ti) (σ 11 ti) (σ 11 ti - 1) t ∧ ot = some t)) := by
    rcases hr_6 with ⟨a1, a2⟩ | ⟨a1, t, a2, a3⟩
    · exact ⟨none, a2, Or.inl ⟨a1, rfl⟩⟩
    · exact ⟨some t, a3, Or.inr ⟨a1, t, a2, rfl⟩⟩
  subst ho1
  have hot : ∀ a, ot = some a → a < σ 5 0 := fun a h => by
    rcases ho2 with ⟨_, b⟩ | ⟨b1, t, b2, b3⟩
    · rw [b] at h; cases h
    · rw [b3] at h; cases h; exact ttl_lt hg (by omega) (by omega) b2
  have hown0 : own σ ti (lifd σ 3 ot) := by
    rcases ho2 with ⟨a1, b⟩ | ⟨b1, t, b2, b3⟩
    · rw [b]; exact Or.inl ⟨a1, rfl⟩
    · rw [b3]; exact Or.inr ⟨b1, t, b2, rfl⟩
  refine lv_iconst (v := nI (3)) hx hb dX4_owner_9 (by decide +kernel) ?_
  refine xs_q (As := [va_rf (ot.map (xa 10)), .int (nI (3))]) (rest := []) ⟨hx, hb, hml, hown, hts⟩ (c_X4_livingFor_3 l D sa xa G0 σ τ hg ot hot) (va_cwS 2 hts gX4_owner_X4_livingFor rfl rfl rfl (by decide +kernel) ⟨Nat.le_of_ble_eq_true rfl, Nat.le_of_ble_eq_true rfl⟩) hW rfl rfl hl.1 (Nat.le_of_ble_eq_true rfl) dX4_owner_10 ⟨Nat.le_of_ble_eq_true rfl, Nat.le_of_ble_eq_true rfl⟩ (fun r_10 xa1 G1 H locs hp hW => ?_)
  obtain ⟨hu, hr_10⟩ := hp
  cases hu
  subst hr_10
  refine xs_i (As := [va_rf ((lifd σ 3 ot).map (xa 10))]) (rest := []) ⟨hx, hb, hml, hown, hts⟩ (c_X4_numberOf l D sa xa G0 σ τ hg (lifd σ 3 ot) (lifd_lt hg hot)) (va_cwS 1 hts gX4_owner_X4_numberOf rfl rfl rfl (by decide +kernel) ⟨Nat.le_of_ble_eq_true rfl, Nat.le_of_ble_eq_true rfl⟩) hW rfl rfl hl.1 (Nat.le_of_ble_eq_true rfl) dX4_owner_13 ⟨Nat.le_of_ble_eq_true rfl, Nat.le_of_ble_eq_true rfl⟩ (fun r_13 xa1 G1 H locs hp hW => ?_)
  obtain ⟨hu, hr_13⟩ := hp
  cases hu
  exact ye_i hx hb hr rfl hlocks hW ⟨gk.mk0 (pT_of hti h12) trivial trivial, rfl, lifd σ 3 ot, hr_13, by rw [xn_nI (by omega)]; exact hown0⟩ (Nat.le_of_ble_eq_true rfl) (Nat.le_of_ble_eq_true rfl) dX4_owner_16
