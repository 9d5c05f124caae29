theorem LL_of {σ σ' : Sg} {τ τ' : Tg} (h11 : σ' 11 = σ 11) (h12 : σ' 12 = σ 12) (h16 : σ' 16 = σ 16) (hr : ∀ r, r ≠ 0 → τ' r = τ r) (hL : LL σ τ) : LL σ' τ' := by
  unfold LL ordr yrs
  rw [h11, h12, h16, hr 1 (by decide), hr 2 (by decide), hr 3 (by decide), hr 4 (by decide)]
  exact hL
theorem TE_of {σ σ' : Sg} {τ : Tg} (h : σ' 5 0 = σ 5 0) (hT : TE σ τ) : TE σ' τ := by
  unfold TE
  rw [h]
  exact hT
theorem TE_person {σ : Sg} {τ : Tg} {g : Nat} (hT : TE σ τ) : TE (sup (sup σ 1 (σ 5 0) g) 5 0 (σ 5 0 + 1)) (tup τ 0 (σ 5 0) none) := by
  intro i p hi hp
  rw [sup_self] at hi ⊢
  by_cases h : i = σ 5 0
  · rw [h, tup_self] at hp; cases hp
  · rw [tup_ne τ (fun h2 => h h2.2)] at hp
    exact Nat.lt_succ_of_lt (hT i p (by omega) hp)
theorem LL_thing {σ : Sg} {τ : Tg} {mk sz : Nat} (hg : Gd σ) (hL : LL σ τ) : LL (sup (sup (sup σ 9 (σ 12 0) mk) 10 (σ 12 0) sz) 12 0 (σ 12 0 + 1)) (tup (tup τ 1 (σ 12 0) none) 2 (σ 12 0) none) := by
  have z11 := hg.2.2.2.2.2.1 (σ 12 0) (Nat.le_refl _)
  have e12 : sup (sup (sup σ 9 (σ 12 0) mk) 10 (σ 12 0) sz) 12 0 (σ 12 0 + 1) 12 0 = σ 12 0 + 1 := sup_self _ _ _ _
  have e11 : sup (sup (sup σ 9 (σ 12 0) mk) 10 (σ 12 0) sz) 12 0 (σ 12 0 + 1) 11 = σ 11 := by rw [sup_row _ _ _ (by decide), sup_row _ _ _ (by decide), sup_row _ _ _ (by decide)]
  have e16 : sup (sup (sup σ 9 (σ 12 0) mk) 10 (σ 12 0) sz) 12 0 (σ 12 0 + 1) 16 = σ 16 := by rw [sup_row _ _ _ (by decide), sup_row _ _ _ (by decide), sup_row _ _ _ (by decide)]
  generalize sup (sup (sup σ 9 (σ 12 0) mk) 10 (σ 12 0) sz) 12 0 (σ 12 0 + 1) = S at e12 e11 e16 ⊢
  have eo : ordr S = ordr σ := by funext i; unfold ordr yrs; rw [e11, e16]
  intro i hi
  rw [e12] at hi
  rw [e11, eo]
  by_cases h : i = σ 12 0
  · subst h
    rw [z11, if_pos rfl, tup_self, tup_ne _ (by omega), tup_self]
    exact ⟨rfl, rfl, fun q hq => absurd hq (by omega)⟩
  · have h1 := hL i (by omega)
    rw [tup_ne _ (by omega), tup_ne _ (fun h2 => h h2.2), tup_ne _ (fun h2 => h h2.2), tup_ne _ (by omega)]
    exact h1

set_option maxHeartbeats 4000000 in
set_option maxRecDepth 100000 in
theorem c_X4_person (l : Launch) (hst0 : l.stackTraces = false) (D : xD) (sa : Nat → Nat) (xa : xA) (G0 : xG) (σ : Sg) (τ : Tg) (hg : Gd σ) (hL : LL σ τ) (hT : TE σ τ) (x : Int32) : xXi l yX4_person wsX4_person ({ frames := 14, cells := 3, slots := 23, locals := 400 } : Room) D sa xa (xGs G0 D xa σ τ) [.ref (xa 0 0), .int x] (fun r u => (gk (rg x 0 3) (σ 5 0 < 12) True) 0 ∧ xPo D xa G0 (t_person σ x 0) (r.toInt = (σ 5 0 : Int)) u) (pxk (gk (rg x 0 3) (σ 5 0 < 12) True) xIob xIse xIse) 3 23 := by
  have hB := hg.1
  have h5 := hg.2.1.1
  have h7 := hg.2.1.2.1
  have h12 := hg.2.1.2.2.1
  have hy0 := hg.2.1.2.2.2.1
  have hy1 := hg.2.1.2.2.2.2
  have hm := hg.hm
  have hs8 := hg.hs8
  intro sz
  refine vx_ofW (cc := cX4_person) (maxL := 3) (ret := (some .int)) (by decide +kernel) rfl ?_
  intro p e s m args below meth c s₁ B hml hout hv
  obtain ⟨rfl, hsz, hv2⟩ := hv
  subst hsz
  have hx := B.exec
  have hb := B.bytes
  have hr := B.returns
  have hts := atoms_spec (ws := wsX4_person) B.pre
  have hown : s.vm.findClass RX4 = some m.cls := findClass_of_methodNamed B.named
  have hlocks := B.notSynchronized
  have hin4 : ∀ w ∈ wsX40, w ∈ wsX4_person := by decide +kernel
  have hin1 : ∀ w ∈ wsX10, w ∈ wsX4_person := by decide +kernel
  have hW := xW.start (s := s) ⟨rfl, hv2⟩
  clear hv2
  generalize xAw xa (xGs G0 D xa σ τ) s.heap.size = A at hW ⊢
  have hl := lv_entry ([.ref (xa 0 0), .int (x)]) (n := 3) (Nat.le_of_ble_eq_true rfl)
  rw [lg_entry_eq]
  generalize (lg_sl ([.ref (xa 0 0), .int (x)]) ++ List.replicate (3 - (lg_sl ([.ref (xa 0 0), .int (x)])).length) Slot.unset).toArray = ls at hl ⊢
  have hl : lv_has ls 3 [(0, .ref (xa 0 0)), (1, .int (x))] := hl
  refine lv_iload_n hx hb dX4_person_0 rfl (lv_at hl 1 rfl) ?_
  refine ys_v (As := [.int (x)]) (rest := []) ⟨hx, hb, hml, hown, hts⟩ (c_X4_requireGroup l hst0 D sa xa (xGs G0 D xa σ τ) x) (va_cwS 1 hts gX4_person_X4_requireGroup rfl rfl rfl (by decide +kernel) ⟨Nat.le_of_ble_eq_true rfl, Nat.le_of_ble_eq_true rfl⟩) ⟨hout, hlocks⟩ (fun E h => px1 h.2 h.1) ⟨Nat.le_of_ble_eq_true rfl, Nat.le_of_ble_eq_true rfl⟩ hW rfl rfl hl.1 (Nat.le_of_ble_eq_true rfl) dX4_person_1 ⟨Nat.le_of_ble_eq_true rfl, Nat.le_of_ble_eq_true rfl⟩ (fun xa1 G1 H locs hp hW => ?_)
  obtain ⟨hu, hq_1⟩ := hp
  cases hu
  have hz := hq_1
  unfold rg at hz
  obtain ⟨gi, hgi, rfl⟩ := x_nat (n := 4) (x := x) (by omega) (by omega)
  refine lv_aload_n hx hb dX4_person_4 rfl (lv_at hl 0 rfl) ?_
  refine x_get hx hb hts hin4 hown hW 0 0 ((xg_x G0 D xa σ τ)) rfl 1 (by decide) (hts (.fieldLink RX4 39 "Restitutory" "peopleCount" "I") (by decide +kernel)) rfl (v := .int (nI (σ 5 0))) (rfl) dX4_person_5 ?_
  have b_5 := hB 5 0
  refine lv_bipush (v := nI (12)) hx hb dX4_person_8 (by decide +kernel) ?_
  refine lv_icmp_lt (tgt := 23) hx hb dX4_person_10 (by decide) (fun c_10 => ?_) (fun c_10 => ?_)
  · -- lt taken
    have c_10 := Int32.lt_iff_toInt_lt.mp c_10
    rw [nI_toInt (n := σ 5 0) (by omega)] at c_10
    rw [nI_toInt (n := 12) (by omega)] at c_10
    refine lv_aload_n hx hb dX4_person_23 rfl (lv_at hl 0 rfl) ?_
    refine x_get hx hb hts hin4 hown hW 0 0 ((xg_x G0 D xa σ τ)) rfl 1 (by decide) (hts (.fieldLink RX4 39 "Restitutory" "peopleCount" "I") (by decide +kernel)) rfl (v := .int (nI (σ 5 0))) (rfl) dX4_person_24 ?_
    have b_24 := hB 5 0
    refine lv_istore_n (lv' := [(2, .int (nI (σ 5 0))), (0, .ref (xa 0 0)), (1, .int (nI (gi)))]) hx hb dX4_person_27 rfl hl (by decide) rfl (fun ls hl => ?_)
    have hl : lv_has ls 3 [(0, .ref (xa 0 0)), (1, .int (nI (gi))), (2, .int (nI (σ 5 0)))] := lv_sub hl [1, 2, 0] rfl
    refine lv_aload_n hx hb dX4_person_28 rfl (lv_at hl 0 rfl) ?_
    refine x_get hx hb hts hin4 hown hW 0 0 ((xg_x G0 D xa σ τ)) rfl 0 (by decide) (hts (.fieldLink RX4 11 "Restitutory" "people" "[LRestitutory$Person;") (by decide +kernel)) rfl (v := .ref (xa 1 0)) (rfl) dX4_person_29 ?_
    refine lv_iload_n hx hb dX4_person_32 rfl (lv_at hl 2 rfl) ?_
    refine x_new hx hb hts hin1 tyX1 tyX1_ok hown (hts (.classLink RX4 9 RX1) (by decide +kernel)) (hts (.instantiable RX1 6) (by decide +kernel)) (hts (.initialized RX1) (by decide +kernel)) hW 10 ((σ 5 0)) (ci := 1) ((if_pos (by omega)).trans (if_neg (Nat.lt_irrefl _))) rfl (fs := [.int (nI 0), .int (nI 0), .int (nI 0), .null, .int (nI 0), .null]) (fun j hj => match j, hj with | 0, _ => rfl | 1, _ => rfl | 2, _ => rfl | 3, _ => rfl | 4, _ => rfl | 5, _ => rfl | j + 6, hj => absurd hj (by omega)) (Nat.le_of_ble_eq_true rfl) (Nat.le_of_ble_eq_true rfl) dX4_person_33 fun xb1 H hxb1 hW => ?_
    refine W_stk (st' := [.ref (xb1 10 ((σ 5 0))), .int (nI (σ 5 0)), .ref (xb1 1 0)]) (by rw [hxb1 1 0 (by omega)]) ?_
    have hl : lv_has ls 3 [(0, .ref (xb1 0 0)), (1, .int (nI (gi))), (2, .int (nI (σ 5 0)))] := by rw [hxb1 0 0 (by omega)]; exact hl
    rw [xGs_xa G0 D (xa := xa) (xa1 := xb1) hg hL hT (fun k_ i_ g1 g2 g3 g4 => hxb1 k_ i_ (fun hz => by have := g1 (Or.inl hz.1); omega))] at hW
    refine lv_dup hx hb dX4_person_36 rfl ?_
    refine lv_iload_n hx hb dX4_person_37 rfl (lv_at hl 2 rfl) ?_
    refine lv_iload_n hx hb dX4_person_38 rfl (lv_at hl 1 rfl) ?_
    refine xi_v (k := 10) (i := ((σ 5 0))) (As := [.int (nI (σ 5 0)), .int (nI (gi))]) (rest := [.ref (xb1 10 ((σ 5 0))), .int (nI (σ 5 0)), .ref (xb1 1 0)]) ⟨hx, hb, hml, hown, hts⟩ (c_X1_init l D sa xb1 (xup (xGs G0 D xb1 σ τ) 10 (((σ 5 0))) (.inr (1, [.int (nI (0)), .int (nI (0)), .int (nI (0)), .null, .int (nI (0)), .null]))) (σ 5 0) gi ((xup_self _ _ _ _)) ((xup_ne _ _ (by omega)).trans ((if_pos (by omega)).trans (if_neg (Nat.lt_irrefl _))))) (cwI 2 hts gX4_person_X1_init rfl rfl rfl (hts (.initialized RX1) (by decide +kernel)) (hts (.methodLink RX4 49 yX1_init) (by decide +kernel)) (hts (.instanceMethod yX1_init) (by decide +kernel)) rfl (by decide +kernel) ⟨Nat.le_of_ble_eq_true rfl, Nat.le_of_ble_eq_true rfl⟩) hW rfl rfl hl.1 (Nat.le_of_ble_eq_true rfl) dX4_person_39 ⟨Nat.le_of_ble_eq_true rfl, Nat.le_of_ble_eq_true rfl⟩ (fun xa1 G1 H locs hp hW => ?_)
    obtain ⟨xb2, hxb2, hu⟩ := hp
    have hu2 : G1 = _ := congrArg Prod.snd hu
    subst hu2
    have hu1 : xb2 = xa1 := (congrArg Prod.fst hu).symm
    subst hu1
    refine W_stk (st' := [.ref (xb2 10 ((σ 5 0))), .int (nI (σ 5 0)), .ref (xb2 1 0)]) (by rw [hxb2 10 (((σ 5 0))) (by omega), hxb2 1 0 (by omega)]) ?_
    have hl : lv_has ls 3 [(0, .ref (xb2 0 0)), (1, .int (nI (gi))), (2, .int (nI (σ 5 0)))] := by rw [hxb2 0 0 (by omega)]; exact hl
    rw [xGs_xa G0 D (xa := xb1) (xa1 := xb2) hg hL hT (fun k_ i_ g1 g2 g3 g4 => hxb2 k_ i_ (fun hz => by have := g1 (Or.inr hz.1); omega))] at hW
    have hW : xW D sa A s xb2 (xup (xup (xGs G0 D xb2 σ τ) 11 ((σ 5 0)) (rfs (D.2 0) 11 (fun _ => none))) 10 ((σ 5 0)) (.inr (1, [.int (nI (σ 5 0)), .int (nI (gi)), .int (nI (0)), .ref (xb2 11 (σ 5 0)), .int (nI (0)), .null]))) H locs := hW.eqG (xup_sq1 _ _ _ _ _ _ _ _).symm
    refine x_ast hx hb hW 1 0 0 (r := (_, _, _)) rfl ((xup_ne _ _ (by omega)).trans ((xup_ne _ _ (by omega)).trans ((xg_pa G0 D xb2 σ τ)))) 10 ((σ 5 0)) ((xup_self _ _ _ _)) (ci := 1) rfl (σ 5 0) rfl (by omega) (by omega) dX4_person_42 fun H locs hW => ?_
    refine lv_aload_n hx hb dX4_person_43 rfl (lv_at hl 0 rfl) ?_
    refine lv_iload_n hx hb dX4_person_44 rfl (lv_at hl 2 rfl) ?_
    refine lv_iconst (v := nI (1)) hx hb dX4_person_45 (by decide +kernel) ?_
    refine lv_iadd hx hb dX4_person_46 ?_
    rw [nI_add]
    refine x_put (ty := .int) (v := .int (nI ((σ 5 0) + 1))) hx hb hts hin4 tyX4 tyX4_ok nmX4 hown hW 0 (0) (fs := xfs xb2 σ) ((xup_ne _ _ (by omega)).trans ((xup_ne _ _ (by omega)).trans ((xup_ne _ _ (by omega)).trans ((xg_x G0 D xb2 σ τ))))) rfl 1 (by decide) (hts (.fieldLink RX4 39 "Restitutory" "peopleCount" "I") (by decide +kernel)) rfl rfl (by decide +kernel) rfl rfl (Nat.le_of_ble_eq_true rfl) dX4_person_47 fun H locs hW => ?_
    have hW := hW.eqG (xf_person G0 D xb2 hg (g := gi)).symm
    refine lv_iload_n hx hb dX4_person_50 rfl (lv_at hl 2 rfl) ?_
    exact ye_i hx hb hr rfl hlocks hW ⟨gk.mk0 hq_1 (by omega) trivial, xb2, tup τ 0 (σ 5 0) none, fun k i hk => (hxb2 k i (by omega)).trans (hxb1 k i (by omega)), by rw [show t_person σ (nI gi) 0 = sup (sup σ 1 (σ 5 0) gi) 5 0 (σ 5 0 + 1) by unfold t_person; rw [if_pos rfl, xn_nI (by omega)]], by rw [show t_person σ (nI gi) 0 = sup (sup σ 1 (σ 5 0) gi) 5 0 (σ 5 0 + 1) by unfold t_person; rw [if_pos rfl, xn_nI (by omega)]]; exact LL_row (tup_row (fun _ _ => rfl)) hL, by rw [show t_person σ (nI gi) 0 = sup (sup σ 1 (σ 5 0) gi) 5 0 (σ 5 0 + 1) by unfold t_person; rw [if_pos rfl, xn_nI (by omega)]]; exact TE_person hT, nI_toInt (by omega)⟩ (Nat.le_of_ble_eq_true rfl) (Nat.le_of_ble_eq_true rfl) dX4_person_51
  · -- lt not
    have c_10 : ¬ ((nI (σ 5 0)).toInt < (nI (12)).toInt) := fun h => c_10 (Int32.lt_iff_toInt_lt.mpr h)
    rw [nI_toInt (n := σ 5 0) (by omega)] at c_10
    rw [nI_toInt (n := 12) (by omega)] at c_10
    exact y_throw (cls := xIse) (text := "there are 12 people") hx hb hst0 hown ce_ise (hts (.classLink RX4 42 "java/lang/IllegalStateException") (by decide +kernel)) (hts (.initialized "java/lang/IllegalStateException") (by decide +kernel)) (fun w h => hts w (List.mem_cons_of_mem _ (List.mem_append_left _ (List.mem_append_right _ h)))) (by decide +kernel) hW (hl.1.trans hml.symm) dX4_person_13 dX4_person_16 dX4_person_17 dX4_person_19 dX4_person_22 ⟨hout, hlocks⟩ (Nat.le_of_ble_eq_true rfl) (Nat.le_of_ble_eq_true rfl) ⟨Nat.le_of_ble_eq_true rfl, Nat.le_of_ble_eq_true rfl⟩ (px2 hq_1 (by omega) rfl) ⟨Nat.le_of_ble_eq_true rfl, Nat.le_of_ble_eq_true rfl⟩

set_option maxHeartbeats 4000000 in
set_option maxRecDepth 100000 in
theorem c_X4_thing (l : Launch) (hst0 : l.stackTraces = false) (D : xD) (sa : Nat → Nat) (xa : xA) (G0 : xG) (σ : Sg) (τ : Tg) (hg : Gd σ) (hL : LL σ τ) (hT : TE σ τ) (mk sz : Int32) : xXi l yX4_thing wsX4_thing ({ frames := 14, cells := 4, slots := 26, locals := 400 } : Room) D sa xa (xGs G0 D xa σ τ) [.ref (xa 0 0), .int mk, .int sz] (fun r u => (gk (rg mk 0 65535 ∧ rg sz 0 1000) (σ 12 0 < 10) True) 0 ∧ xPo D xa G0 (t_thing σ mk sz 0) (r.toInt = (σ 12 0 : Int)) u) (pxk (gk (rg mk 0 65535 ∧ rg sz 0 1000) (σ 12 0 < 10) True) xIae xIse xIse) 4 26 := by
  have hB := hg.1
  have h5 := hg.2.1.1
  have h7 := hg.2.1.2.1
  have h12 := hg.2.1.2.2.1
  have hy0 := hg.2.1.2.2.2.1
  have hy1 := hg.2.1.2.2.2.2
  have hm := hg.hm
  have hs8 := hg.hs8
  intro sz
  refine vx_ofW (cc := cX4_thing) (maxL := 4) (ret := (some .int)) (by decide +kernel) rfl ?_
  intro p e s m args below meth c s₁ B hml hout hv
  obtain ⟨rfl, hsz, hv2⟩ := hv
  subst hsz
  have hx := B.exec
  have hb := B.bytes
  have hr := B.returns
  have hts := atoms_spec (ws := wsX4_thing) B.pre
  have hown : s.vm.findClass RX4 = some m.cls := findClass_of_methodNamed B.named
  have hlocks := B.notSynchronized
  have hin4 : ∀ w ∈ wsX40, w ∈ wsX4_thing := by decide +kernel
  have hin3 : ∀ w ∈ wsX30, w ∈ wsX4_thing := by decide +kernel
  have hW := xW.start (s := s) ⟨rfl, hv2⟩
  clear hv2
  generalize xAw xa (xGs G0 D xa σ τ) s.heap.size = A at hW ⊢
  have hl := lv_entry ([.ref (xa 0 0), .int (mk), .int (sz)]) (n := 4) (Nat.le_of_ble_eq_true rfl)
  rw [lg_entry_eq]
  generalize (lg_sl ([.ref (xa 0 0), .int (mk), .int (sz)]) ++ List.replicate (4 - (lg_sl ([.ref (xa 0 0), .int (mk), .int (sz)])).length) Slot.unset).toArray = ls at hl ⊢
  have hl : lv_has ls 4 [(0, .ref (xa 0 0)), (1, .int (mk)), (2, .int (sz))] := hl
  refine lv_iload_n hx hb dX4_thing_0 rfl (lv_at hl 1 rfl) ?_
  refine lv_iconst (v := nI (0)) hx hb dX4_thing_1 (by decide +kernel) ?_
  refine lv_ldc (v := nI 65535) hx hb hown (hts (.constant RX4 94 (65535)) (by decide +kernel)) dX4_thing_2 ?_
  refine ys_v (As := [.int (mk), .int (nI (0)), .int (nI (65535))]) (rest := []) ⟨hx, hb, hml, hown, hts⟩ (c_X4_requireRange l hst0 D sa xa (xGs G0 D xa σ τ) mk (nI (0)) (nI (65535))) (va_cwS 3 hts gX4_thing_X4_requireRange rfl rfl rfl (by decide +kernel) ⟨Nat.le_of_ble_eq_true rfl, Nat.le_of_ble_eq_true rfl⟩) ⟨hout, hlocks⟩ (fun E h => px1 (fun hh => h.2 ((rg_in (by omega) (by omega)).mpr hh.1)) h.1) ⟨Nat.le_of_ble_eq_true rfl, Nat.le_of_ble_eq_true rfl⟩ hW rfl rfl hl.1 (Nat.le_of_ble_eq_true rfl) dX4_thing_4 ⟨Nat.le_of_ble_eq_true rfl, Nat.le_of_ble_eq_true rfl⟩ (fun xa1 G1 H locs hp hW => ?_)
  obtain ⟨hu, hq_4⟩ := hp
  cases hu
  refine lv_iload_n hx hb dX4_thing_7 rfl (lv_at hl 2 rfl) ?_
  refine lv_iconst (v := nI (0)) hx hb dX4_thing_8 (by decide +kernel) ?_
  refine lv_sipush (v := nI (1000)) hx hb dX4_thing_9 (by decide +kernel) ?_
  refine ys_v (As := [.int (sz), .int (nI (0)), .int (nI (1000))]) (rest := []) ⟨hx, hb, hml, hown, hts⟩ (c_X4_requireRange l hst0 D sa xa (xGs G0 D xa σ τ) sz (nI (0)) (nI (1000))) (va_cwS 3 hts gX4_thing_X4_requireRange rfl rfl rfl (by decide +kernel) ⟨Nat.le_of_ble_eq_true rfl, Nat.le_of_ble_eq_true rfl⟩) ⟨hout, hlocks⟩ (fun E h => px1 (fun hh => h.2 ((rg_in (by omega) (by omega)).mpr hh.2)) h.1) ⟨Nat.le_of_ble_eq_true rfl, Nat.le_of_ble_eq_true rfl⟩ hW rfl rfl hl.1 (Nat.le_of_ble_eq_true rfl) dX4_thing_12 ⟨Nat.le_of_ble_eq_true rfl, Nat.le_of_ble_eq_true rfl⟩ (fun xa1 G1 H locs hp hW => ?_)
  obtain ⟨hu, hq_12⟩ := hp
  cases hu
  have hRm := (rg_in (a := 0) (b := 65535) (by omega) (by omega)).mp hq_4
  have hRs := (rg_in (a := 0) (b := 1000) (by omega) (by omega)).mp hq_12
  have hz := hRm
  unfold rg at hz
  have hz2 := hRs
  unfold rg at hz2
  obtain ⟨mi, hmi, rfl⟩ := x_nat (n := 65536) (x := mk) (by omega) (by omega)
  obtain ⟨si, hsi, rfl⟩ := x_nat (n := 1001) (x := sz) (by omega) (by omega)
  refine lv_aload_n hx hb dX4_thing_15 rfl (lv_at hl 0 rfl) ?_
  refine x_get hx hb hts hin4 hown hW 0 0 ((xg_x G0 D xa σ τ)) rfl 7 (by decide) (hts (.fieldLink RX4 95 "Restitutory" "thingCount" "I") (by decide +kernel)) rfl (v := .int (nI (σ 12 0))) (rfl) dX4_thing_16 ?_
  have b_16 := hB 12 0
  refine lv_bipush (v := nI (10)) hx hb dX4_thing_19 (by decide +kernel) ?_
  refine lv_icmp_lt (tgt := 34) hx hb dX4_thing_21 (by decide) (fun c_21 => ?_) (fun c_21 => ?_)
  · -- lt taken
    have c_21 := Int32.lt_iff_toInt_lt.mp c_21
    rw [nI_toInt (n := σ 12 0) (by omega)] at c_21
    rw [nI_toInt (n := 10) (by omega)] at c_21
    refine lv_aload_n hx hb dX4_thing_34 rfl (lv_at hl 0 rfl) ?_
    refine x_get hx hb hts hin4 hown hW 0 0 ((xg_x G0 D xa σ τ)) rfl 7 (by decide) (hts (.fieldLink RX4 95 "Restitutory" "thingCount" "I") (by decide +kernel)) rfl (v := .int (nI (σ 12 0))) (rfl) dX4_thing_35 ?_
    have b_35 := hB 12 0
    refine lv_istore_n (lv' := [(3, .int (nI (σ 12 0))), (0, .ref (xa 0 0)), (1, .int (nI (mi))), (2, .int (nI (si)))]) hx hb dX4_thing_38 rfl hl (by decide) rfl (fun ls hl => ?_)
    have hl : lv_has ls 4 [(0, .ref (xa 0 0)), (1, .int (nI (mi))), (2, .int (nI (si))), (3, .int (nI (σ 12 0)))] := lv_sub hl [1, 2, 3, 0] rfl
    refine lv_aload_n hx hb dX4_thing_39 rfl (lv_at hl 0 rfl) ?_
    refine x_get hx hb hts hin4 hown hW 0 0 ((xg_x G0 D xa σ τ)) rfl 6 (by decide) (hts (.fieldLink RX4 31 "Restitutory" "things" "[LRestitutory$Thing;") (by decide +kernel)) rfl (v := .ref (xa 4 0)) (rfl) dX4_thing_40 ?_
    refine lv_iload_n hx hb dX4_thing_43 rfl (lv_at hl 3 rfl) ?_
    refine x_new hx hb hts hin3 tyX3 tyX3_ok hown (hts (.classLink RX4 29 RX3) (by decide +kernel)) (hts (.instantiable RX3 6) (by decide +kernel)) (hts (.initialized RX3) (by decide +kernel)) hW 13 ((σ 12 0)) (ci := 3) ((if_pos (by omega)).trans (if_neg (Nat.lt_irrefl _))) rfl (fs := [.int (nI 0), .int (nI 0), .null, .int (nI 0), .null, .null]) (fun j hj => match j, hj with | 0, _ => rfl | 1, _ => rfl | 2, _ => rfl | 3, _ => rfl | 4, _ => rfl | 5, _ => rfl | j + 6, hj => absurd hj (by omega)) (Nat.le_of_ble_eq_true rfl) (Nat.le_of_ble_eq_true rfl) dX4_thing_44 fun xb1 H hxb1 hW => ?_
    refine W_stk (st' := [.ref (xb1 13 ((σ 12 0))), .int (nI (σ 12 0)), .ref (xb1 4 0)]) (by rw [hxb1 4 0 (by omega)]) ?_
    have hl : lv_has ls 4 [(0, .ref (xb1 0 0)), (1, .int (nI (mi))), (2, .int (nI (si))), (3, .int (nI (σ 12 0)))] := by rw [hxb1 0 0 (by omega)]; exact hl
    rw [xGs_xa G0 D (xa := xa) (xa1 := xb1) hg hL hT (fun k_ i_ g1 g2 g3 g4 => hxb1 k_ i_ (fun hz => by have := g3 (Or.inl hz.1); omega))] at hW
    refine lv_dup hx hb dX4_thing_47 rfl ?_
    refine lv_iload_n hx hb dX4_thing_48 rfl (lv_at hl 1 rfl) ?_
    refine lv_iload_n hx hb dX4_thing_49 rfl (lv_at hl 2 rfl) ?_
    refine xi_v (k := 13) (i := ((σ 12 0))) (As := [.int (nI (mi)), .int (nI (si))]) (rest := [.ref (xb1 13 ((σ 12 0))), .int (nI (σ 12 0)), .ref (xb1 4 0)]) ⟨hx, hb, hml, hown, hts⟩ (c_X3_init l D sa xb1 (xup (xGs G0 D xb1 σ τ) 13 (((σ 12 0))) (.inr (3, [.int (nI (0)), .int (nI (0)), .null, .int (nI (0)), .null, .null]))) (σ 12 0) mi si ((xup_self _ _ _ _)) ((xup_ne _ _ (by omega)).trans ((if_pos (by omega)).trans (if_neg (Nat.lt_irrefl _))))) (cwI 2 hts gX4_thing_X3_init rfl rfl rfl (hts (.initialized RX3) (by decide +kernel)) (hts (.methodLink RX4 100 yX3_init) (by decide +kernel)) (hts (.instanceMethod yX3_init) (by decide +kernel)) rfl (by decide +kernel) ⟨Nat.le_of_ble_eq_true rfl, Nat.le_of_ble_eq_true rfl⟩) hW rfl rfl hl.1 (Nat.le_of_ble_eq_true rfl) dX4_thing_50 ⟨Nat.le_of_ble_eq_true rfl, Nat.le_of_ble_eq_true rfl⟩ (fun xa1 G1 H locs hp hW => ?_)
    obtain ⟨xb2, hxb2, hu⟩ := hp
    have hu2 : G1 = _ := congrArg Prod.snd hu
    subst hu2
    have hu1 : xb2 = xa1 := (congrArg Prod.fst hu).symm
    subst hu1
    refine W_stk (st' := [.ref (xb2 13 ((σ 12 0))), .int (nI (σ 12 0)), .ref (xb2 4 0)]) (by rw [hxb2 13 (((σ 12 0))) (by omega), hxb2 4 0 (by omega)]) ?_
    have hl : lv_has ls 4 [(0, .ref (xb2 0 0)), (1, .int (nI (mi))), (2, .int (nI (si))), (3, .int (nI (σ 12 0)))] := by rw [hxb2 0 0 (by omega)]; exact hl
    rw [xGs_xa G0 D (xa := xb1) (xa1 := xb2) hg hL hT (fun k_ i_ g1 g2 g3 g4 => hxb2 k_ i_ (fun hz => by have := g3 (Or.inr hz.1); omega))] at hW
    have hW : xW D sa A s xb2 (xup (xup (xGs G0 D xb2 σ τ) 14 ((σ 12 0)) (rfs (D.2 3) 8 (fun _ => none))) 13 ((σ 12 0)) (.inr (3, [.int (nI (mi)), .int (nI (si)), .ref (xb2 14 (σ 12 0)), .int (nI (0)), .null, .null]))) H locs := hW.eqG (xup_sq1 _ _ _ _ _ _ _ _).symm
    refine x_ast hx hb hW 4 0 2 (r := (_, _, _)) rfl ((xup_ne _ _ (by omega)).trans ((xup_ne _ _ (by omega)).trans ((xg_ta G0 D xb2 σ τ)))) 13 ((σ 12 0)) ((xup_self _ _ _ _)) (ci := 3) rfl (σ 12 0) rfl (by omega) (by omega) dX4_thing_53 fun H locs hW => ?_
    refine lv_aload_n hx hb dX4_thing_54 rfl (lv_at hl 0 rfl) ?_
    refine lv_iload_n hx hb dX4_thing_55 rfl (lv_at hl 3 rfl) ?_
    refine lv_iconst (v := nI (1)) hx hb dX4_thing_56 (by decide +kernel) ?_
    refine lv_iadd hx hb dX4_thing_57 ?_
    rw [nI_add]
    refine x_put (ty := .int) (v := .int (nI ((σ 12 0) + 1))) hx hb hts hin4 tyX4 tyX4_ok nmX4 hown hW 0 (0) (fs := xfs xb2 σ) ((xup_ne _ _ (by omega)).trans ((xup_ne _ _ (by omega)).trans ((xup_ne _ _ (by omega)).trans ((xg_x G0 D xb2 σ τ))))) rfl 7 (by decide) (hts (.fieldLink RX4 95 "Restitutory" "thingCount" "I") (by decide +kernel)) rfl rfl (by decide +kernel) rfl rfl (Nat.le_of_ble_eq_true rfl) dX4_thing_58 fun H locs hW => ?_
    have hW := hW.eqG (xf_thing G0 D xb2 hg (mk := mi) (sz := si)).symm
    refine lv_iload_n hx hb dX4_thing_61 rfl (lv_at hl 3 rfl) ?_
    exact ye_i hx hb hr rfl hlocks hW ⟨gk.mk0 ⟨hRm, hRs⟩ (by omega) trivial, xb2, tup (tup τ 1 (σ 12 0) none) 2 (σ 12 0) none, fun k i hk => (hxb2 k i (by omega)).trans (hxb1 k i (by omega)), by rw [show t_thing σ (nI mi) (nI si) 0 = sup (sup (sup σ 9 (σ 12 0) mi) 10 (σ 12 0) si) 12 0 (σ 12 0 + 1) by unfold t_thing; rw [if_pos rfl, xn_nI (by omega), xn_nI (by omega)]], by rw [show t_thing σ (nI mi) (nI si) 0 = sup (sup (sup σ 9 (σ 12 0) mi) 10 (σ 12 0) si) 12 0 (σ 12 0 + 1) by unfold t_thing; rw [if_pos rfl, xn_nI (by omega), xn_nI (by omega)]]; exact LL_thing hg hL, by rw [show t_thing σ (nI mi) (nI si) 0 = sup (sup (sup σ 9 (σ 12 0) mi) 10 (σ 12 0) si) 12 0 (σ 12 0 + 1) by unfold t_thing; rw [if_pos rfl, xn_nI (by omega), xn_nI (by omega)]]; exact TE_of (by rw [sup_row _ _ _ (by decide), sup_row _ _ _ (by decide), sup_row _ _ _ (by decide)]) hT, nI_toInt (by omega)⟩ (Nat.le_of_ble_eq_true rfl) (Nat.le_of_ble_eq_true rfl) dX4_thing_62
  · -- lt not
    have c_21 : ¬ ((nI (σ 12 0)).toInt < (nI (10)).toInt) := fun h => c_21 (Int32.lt_iff_toInt_lt.mpr h)
    rw [nI_toInt (n := σ 12 0) (by omega)] at c_21
    rw [nI_toInt (n := 10) (by omega)] at c_21
    exact y_throw (cls := xIse) (text := "there are 10 things") hx hb hst0 hown ce_ise (hts (.classLink RX4 42 "java/lang/IllegalStateException") (by decide +kernel)) (hts (.initialized "java/lang/IllegalStateException") (by decide +kernel)) (fun w h => hts w (List.mem_cons_of_mem _ (List.mem_append_left _ (List.mem_append_right _ h)))) (by decide +kernel) hW (hl.1.trans hml.symm) dX4_thing_24 dX4_thing_27 dX4_thing_28 dX4_thing_30 dX4_thing_33 ⟨hout, hlocks⟩ (Nat.le_of_ble_eq_true rfl) (Nat.le_of_ble_eq_true rfl) ⟨Nat.le_of_ble_eq_true rfl, Nat.le_of_ble_eq_true rfl⟩ (px2 ⟨hRm, hRs⟩ (by omega) rfl) ⟨Nat.le_of_ble_eq_true rfl, Nat.le_of_ble_eq_true rfl⟩

set_option maxHeartbeats 4000000 in
set_option maxRecDepth 100000 in
theorem c_X4_persecution (l : Launch) (hst0 : l.stackTraces = false) (D : xD) (sa : Nat → Nat) (xa : xA) (G0 : xG) (σ : Sg) (τ : Tg) (hg : Gd σ) (hL : LL σ τ) (hT : TE σ τ) (g a f t : Int32) : xXi l yX4_persecution wsX4_persecution ({ frames := 14, cells := 5, slots := 30, locals := 400 } : Room) D sa xa (xGs G0 D xa σ τ) [.ref (xa 0 0), .int g, .int a, .int f, .int t] (fun r u => (gk (rg g 0 3 ∧ pL a) (rg f 1900 2100 ∧ f.toInt ≤ t.toInt ∧ t.toInt ≤ 2100) (σ 7 0 < 20)) 0 ∧ xPo D xa G0 (t_persecution σ g a f t 0) (r.toInt = ((σ 7 0 + 1 : Nat) : Int)) u) (pxk (gk (rg g 0 3 ∧ pL a) (rg f 1900 2100 ∧ f.toInt ≤ t.toInt ∧ t.toInt ≤ 2100) (σ 7 0 < 20)) xIob xIae xIse) 5 30 := by
  have hB := hg.1
  have h5 := hg.2.1.1
  have h7 := hg.2.1.2.1
  have h12 := hg.2.1.2.2.1
  have hy0 := hg.2.1.2.2.2.1
  have hy1 := hg.2.1.2.2.2.2
  have hm := hg.hm
  have hs8 := hg.hs8
  intro sz
  refine vx_ofW (cc := cX4_persecution) (maxL := 5) (ret := (some .int)) (by decide +kernel) rfl ?_
  intro p e s m args below meth c s₁ B hml hout hv
  obtain ⟨rfl, hsz, hv2⟩ := hv
  subst hsz
  have hx := B.exec
  have hb := B.bytes
  have hr := B.returns
  have hts := atoms_spec (ws := wsX4_persecution) B.pre
  have hown : s.vm.findClass RX4 = some m.cls := findClass_of_methodNamed B.named
  have hlocks := B.notSynchronized
  have hin4 : ∀ w ∈ wsX40, w ∈ wsX4_persecution := by decide +kernel
  have hin0 : ∀ w ∈ wsX00, w ∈ wsX4_persecution := by decide +kernel
  have hW := xW.start (s := s) ⟨rfl, hv2⟩
  clear hv2
  generalize xAw xa (xGs G0 D xa σ τ) s.heap.size = A at hW ⊢
  have hl := lv_entry ([.ref (xa 0 0), .int (g), .int (a), .int (f), .int (t)]) (n := 5) (Nat.le_of_ble_eq_true rfl)
  rw [lg_entry_eq]
  generalize (lg_sl ([.ref (xa 0 0), .int (g), .int (a), .int (f), .int (t)]) ++ List.replicate (5 - (lg_sl ([.ref (xa 0 0), .int (g), .int (a), .int (f), .int (t)])).length) Slot.unset).toArray = ls at hl ⊢
  have hl : lv_has ls 5 [(0, .ref (xa 0 0)), (1, .int (g)), (2, .int (a)), (3, .int (f)), (4, .int (t))] := hl
  refine lv_iload_n hx hb dX4_persecution_0 rfl (lv_at hl 1 rfl) ?_
  refine ys_v (As := [.int (g)]) (rest := []) ⟨hx, hb, hml, hown, hts⟩ (c_X4_requireGroup l hst0 D sa xa (xGs G0 D xa σ τ) g) (va_cwS 1 hts gX4_persecution_X4_requireGroup rfl rfl rfl (by decide +kernel) ⟨Nat.le_of_ble_eq_true rfl, Nat.le_of_ble_eq_true rfl⟩) ⟨hout, hlocks⟩ (fun E h => px1 (fun hh => h.2 hh.1) h.1) ⟨Nat.le_of_ble_eq_true rfl, Nat.le_of_ble_eq_true rfl⟩ hW rfl rfl hl.1 (Nat.le_of_ble_eq_true rfl) dX4_persecution_1 ⟨Nat.le_of_ble_eq_true rfl, Nat.le_of_ble_eq_true rfl⟩ (fun xa1 G1 H locs hp hW => ?_)
  obtain ⟨hu, hq_1⟩ := hp
  cases hu
  refine lv_iload_n hx hb dX4_persecution_4 rfl (lv_at hl 2 rfl) ?_
  refine ys_v (As := [.int (a)]) (rest := []) ⟨hx, hb, hml, hown, hts⟩ (c_X4_requireLand l hst0 D sa xa (xGs G0 D xa σ τ) a) (va_cwS 1 hts gX4_persecution_X4_requireLand rfl rfl rfl (by decide +kernel) ⟨Nat.le_of_ble_eq_true rfl, Nat.le_of_ble_eq_true rfl⟩) ⟨hout, hlocks⟩ (fun E h => px1 (fun hh => h.2 hh.2) h.1) ⟨Nat.le_of_ble_eq_true rfl, Nat.le_of_ble_eq_true rfl⟩ hW rfl rfl hl.1 (Nat.le_of_ble_eq_true rfl) dX4_persecution_5 ⟨Nat.le_of_ble_eq_true rfl, Nat.le_of_ble_eq_true rfl⟩ (fun xa1 G1 H locs hp hW => ?_)
  obtain ⟨hu, hq_5⟩ := hp
  cases hu
  refine lv_iload_n hx hb dX4_persecution_8 rfl (lv_at hl 3 rfl) ?_
  refine lv_sipush (v := nI (1900)) hx hb dX4_persecution_9 (by decide +kernel) ?_
  refine lv_sipush (v := nI (2100)) hx hb dX4_persecution_12 (by decide +kernel) ?_
  refine ys_v (As := [.int (f), .int (nI (1900)), .int (nI (2100))]) (rest := []) ⟨hx, hb, hml, hown, hts⟩ (c_X4_requireRange l hst0 D sa xa (xGs G0 D xa σ τ) f (nI (1900)) (nI (2100))) (va_cwS 3 hts gX4_persecution_X4_requireRange rfl rfl rfl (by decide +kernel) ⟨Nat.le_of_ble_eq_true rfl, Nat.le_of_ble_eq_true rfl⟩) ⟨hout, hlocks⟩ (fun E h => px2 ⟨hq_1, hq_5⟩ (fun hh => h.2 ((rg_in (by omega) (by omega)).mpr hh.1)) h.1) ⟨Nat.le_of_ble_eq_true rfl, Nat.le_of_ble_eq_true rfl⟩ hW rfl rfl hl.1 (Nat.le_of_ble_eq_true rfl) dX4_persecution_15 ⟨Nat.le_of_ble_eq_true rfl, Nat.le_of_ble_eq_true rfl⟩ (fun xa1 G1 H locs hp hW => ?_)
  obtain ⟨hu, hq_15⟩ := hp
  cases hu
  refine lv_iload hx hb dX4_persecution_18 (lv_at hl 4 rfl) ?_
  refine lv_iload_n hx hb dX4_persecution_20 rfl (lv_at hl 3 rfl) ?_
  refine lv_sipush (v := nI (2100)) hx hb dX4_persecution_21 (by decide +kernel) ?_
  refine ys_v (As := [.int (t), .int (f), .int (nI (2100))]) (rest := []) ⟨hx, hb, hml, hown, hts⟩ (c_X4_requireRange l hst0 D sa xa (xGs G0 D xa σ τ) t f (nI (2100))) (va_cwS 3 hts gX4_persecution_X4_requireRange rfl rfl rfl (by decide +kernel) ⟨Nat.le_of_ble_eq_true rfl, Nat.le_of_ble_eq_true rfl⟩) ⟨hout, hlocks⟩ (fun E h => px2 ⟨hq_1, hq_5⟩ (fun hh => h.2 ⟨hh.2.1, by rw [nI_toInt (by omega)]; exact hh.2.2⟩) h.1) ⟨Nat.le_of_ble_eq_true rfl, Nat.le_of_ble_eq_true rfl⟩ hW rfl rfl hl.1 (Nat.le_of_ble_eq_true rfl) dX4_persecution_24 ⟨Nat.le_of_ble_eq_true rfl, Nat.le_of_ble_eq_true rfl⟩ (fun xa1 G1 H locs hp hW => ?_)
  obtain ⟨hu, hq_24⟩ := hp
  cases hu
  have hRf := (rg_in (a := 1900) (b := 2100) (by omega) (by omega)).mp hq_15
  have hRR : rg f 1900 2100 ∧ f.toInt ≤ t.toInt ∧ t.toInt ≤ 2100 := ⟨hRf, hq_24.1, by have h_ := hq_24.2; rw [nI_toInt (by omega)] at h_; exact h_⟩
  have hz := hRR
  unfold rg at hz
  have hzg := hq_1
  unfold rg at hzg
  have hza := hq_5
  unfold pL at hza
  obtain ⟨gi, hgi, rfl⟩ := x_nat (n := 4) (x := g) (by omega) (by omega)
  obtain ⟨ai, hai, rfl⟩ := x_nat (n := 5) (x := a) (by omega) (by omega)
  obtain ⟨fi, hfi, rfl⟩ := x_nat (n := 2101) (x := f) (by omega) (by omega)
  obtain ⟨ui, hui, rfl⟩ := x_nat (n := 2101) (x := t) (by omega) (by omega)
  refine lv_aload_n hx hb dX4_persecution_27 rfl (lv_at hl 0 rfl) ?_
  refine x_get hx hb hts hin4 hown hW 0 0 ((xg_x G0 D xa σ τ)) rfl 3 (by decide) (hts (.fieldLink RX4 86 "Restitutory" "persecutionCount" "I") (by decide +kernel)) rfl (v := .int (nI (σ 7 0))) (rfl) dX4_persecution_28 ?_
  have b_28 := hB 7 0
  refine lv_bipush (v := nI (20)) hx hb dX4_persecution_31 (by decide +kernel) ?_
  refine lv_icmp_lt (tgt := 46) hx hb dX4_persecution_33 (by decide) (fun c_33 => ?_) (fun c_33 => ?_)
  · -- lt taken
    have c_33 := Int32.lt_iff_toInt_lt.mp c_33
    rw [nI_toInt (n := σ 7 0) (by omega)] at c_33
    rw [nI_toInt (n := 20) (by omega)] at c_33
    refine lv_aload_n hx hb dX4_persecution_46 rfl (lv_at hl 0 rfl) ?_
    refine x_get hx hb hts hin4 hown hW 0 0 ((xg_x G0 D xa σ τ)) rfl 2 (by decide) (hts (.fieldLink RX4 17 "Restitutory" "persecutions" "[LRestitutory$Persecution;") (by decide +kernel)) rfl (v := .ref (xa 2 0)) (rfl) dX4_persecution_47 ?_
    refine lv_aload_n hx hb dX4_persecution_50 rfl (lv_at hl 0 rfl) ?_
    refine x_get hx hb hts hin4 hown hW 0 0 ((xg_x G0 D xa σ τ)) rfl 3 (by decide) (hts (.fieldLink RX4 86 "Restitutory" "persecutionCount" "I") (by decide +kernel)) rfl (v := .int (nI (σ 7 0))) (rfl) dX4_persecution_51 ?_
    have b_51 := hB 7 0
    refine x_new hx hb hts hin0 tyX0 tyX0_ok hown (hts (.classLink RX4 15 RX0) (by decide +kernel)) (hts (.instantiable RX0 4) (by decide +kernel)) (hts (.initialized RX0) (by decide +kernel)) hW 12 ((σ 7 0)) (ci := 0) ((if_pos (by omega)).trans (if_neg (Nat.lt_irrefl _))) rfl (fs := [.int (nI 0), .int (nI 0), .int (nI 0), .int (nI 0)]) (fun j hj => match j, hj with | 0, _ => rfl | 1, _ => rfl | 2, _ => rfl | 3, _ => rfl | j + 4, hj => absurd hj (by omega)) (Nat.le_of_ble_eq_true rfl) (Nat.le_of_ble_eq_true rfl) dX4_persecution_54 fun xb1 H hxb1 hW => ?_
    refine W_stk (st' := [.ref (xb1 12 ((σ 7 0))), .int (nI (σ 7 0)), .ref (xb1 2 0)]) (by rw [hxb1 2 0 (by omega)]) ?_
    have hl : lv_has ls 5 [(0, .ref (xb1 0 0)), (1, .int (nI (gi))), (2, .int (nI (ai))), (3, .int (nI (fi))), (4, .int (nI (ui)))] := by rw [hxb1 0 0 (by omega)]; exact hl
    rw [xGs_xa G0 D (xa := xa) (xa1 := xb1) hg hL hT (fun k_ i_ g1 g2 g3 g4 => hxb1 k_ i_ (fun hz => by have := g2 hz.1; omega))] at hW
    refine lv_dup hx hb dX4_persecution_57 rfl ?_
    refine lv_iload_n hx hb dX4_persecution_58 rfl (lv_at hl 1 rfl) ?_
    refine lv_iload_n hx hb dX4_persecution_59 rfl (lv_at hl 2 rfl) ?_
    refine lv_iload_n hx hb dX4_persecution_60 rfl (lv_at hl 3 rfl) ?_
    refine lv_iload hx hb dX4_persecution_61 (lv_at hl 4 rfl) ?_
    refine xi_v (k := 12) (i := ((σ 7 0))) (As := [.int (nI (gi)), .int (nI (ai)), .int (nI (fi)), .int (nI (ui))]) (rest := [.ref (xb1 12 ((σ 7 0))), .int (nI (σ 7 0)), .ref (xb1 2 0)]) ⟨hx, hb, hml, hown, hts⟩ (c_X0_init l D sa xb1 (xup (xGs G0 D xb1 σ τ) 12 (((σ 7 0))) (.inr (0, [.int (nI (0)), .int (nI (0)), .int (nI (0)), .int (nI (0))]))) (σ 7 0) gi ai fi ui ((xup_self _ _ _ _))) (cwI 4 hts gX4_persecution_X0_init rfl rfl rfl (hts (.initialized RX0) (by decide +kernel)) (hts (.methodLink RX4 91 yX0_init) (by decide +kernel)) (hts (.instanceMethod yX0_init) (by decide +kernel)) rfl (by decide +kernel) ⟨Nat.le_of_ble_eq_true rfl, Nat.le_of_ble_eq_true rfl⟩) hW rfl rfl hl.1 (Nat.le_of_ble_eq_true rfl) dX4_persecution_63 ⟨Nat.le_of_ble_eq_true rfl, Nat.le_of_ble_eq_true rfl⟩ (fun xa1 G1 H locs hp hW => ?_)
    cases hp
    have hW : xW D sa A s xb1 (xup (xGs G0 D xb1 σ τ) 12 ((σ 7 0)) (.inr (0, [.int (nI (gi)), .int (nI (ai)), .int (nI (fi)), .int (nI (ui))]))) H locs := hW.eqG (xup_sq _ _ _ _ _).symm
    refine x_ast hx hb hW 2 0 1 (r := (_, _, _)) rfl ((xup_ne _ _ (by omega)).trans ((xg_ea G0 D xb1 σ τ))) 12 ((σ 7 0)) ((xup_self _ _ _ _)) (ci := 0) rfl (σ 7 0) rfl (by omega) (by omega) dX4_persecution_66 fun H locs hW => ?_
    refine lv_aload_n hx hb dX4_persecution_67 rfl (lv_at hl 0 rfl) ?_
    refine lv_dup hx hb dX4_persecution_68 rfl ?_
    refine x_get hx hb hts hin4 hown hW 0 0 ((xup_ne _ _ (by omega)).trans ((xup_ne _ _ (by omega)).trans ((xg_x G0 D xb1 σ τ)))) rfl 3 (by decide) (hts (.fieldLink RX4 86 "Restitutory" "persecutionCount" "I") (by decide +kernel)) rfl (v := .int (nI (σ 7 0))) (rfl) dX4_persecution_69 ?_
    have b_69 := hB 7 0
    refine lv_iconst (v := nI (1)) hx hb dX4_persecution_72 (by decide +kernel) ?_
    refine lv_iadd hx hb dX4_persecution_73 ?_
    rw [nI_add]
    refine x_put (ty := .int) (v := .int (nI ((σ 7 0) + 1))) hx hb hts hin4 tyX4 tyX4_ok nmX4 hown hW 0 (0) (fs := xfs xb1 σ) ((xup_ne _ _ (by omega)).trans ((xup_ne _ _ (by omega)).trans ((xg_x G0 D xb1 σ τ)))) rfl 3 (by decide) (hts (.fieldLink RX4 86 "Restitutory" "persecutionCount" "I") (by decide +kernel)) rfl rfl (by decide +kernel) rfl rfl (Nat.le_of_ble_eq_true rfl) dX4_persecution_74 fun H locs hW => ?_
    have hW := hW.eqG (xf_persecution G0 D xb1 (g := gi) (a := ai) (f := fi) (t := ui)).symm
    refine lv_aload_n hx hb dX4_persecution_77 rfl (lv_at hl 0 rfl) ?_
    refine x_get hx hb hts hin4 hown hW 0 0 ((xg_x G0 D xb1 (sup (sup (sup (sup (sup σ 6 (4 * σ 7 0) gi) 6 (4 * σ 7 0 + 1) ai) 6 (4 * σ 7 0 + 2) fi) 6 (4 * σ 7 0 + 3) ui) 7 0 (σ 7 0 + 1)) τ)) rfl 3 (by decide) (hts (.fieldLink RX4 86 "Restitutory" "persecutionCount" "I") (by decide +kernel)) rfl (v := .int (nI (σ 7 0 + 1))) (by show some (Value.int (nI (_))) = _; rw [sup_self]) dX4_persecution_78 ?_
    exact ye_i hx hb hr rfl hlocks hW ⟨gk.mk0 ⟨hq_1, hq_5⟩ hRR (by omega), xb1, τ, fun k i hk => hxb1 k i (by omega), by rw [show t_persecution σ (nI gi) (nI ai) (nI fi) (nI ui) 0 = sup (sup (sup (sup (sup σ 6 (4 * σ 7 0) gi) 6 (4 * σ 7 0 + 1) ai) 6 (4 * σ 7 0 + 2) fi) 6 (4 * σ 7 0 + 3) ui) 7 0 (σ 7 0 + 1) by unfold t_persecution; rw [if_pos rfl, xn_nI (n := gi) (by omega), xn_nI (n := ai) (by omega), xn_nI (n := fi) (by omega), xn_nI (n := ui) (by omega)]], by rw [show t_persecution σ (nI gi) (nI ai) (nI fi) (nI ui) 0 = sup (sup (sup (sup (sup σ 6 (4 * σ 7 0) gi) 6 (4 * σ 7 0 + 1) ai) 6 (4 * σ 7 0 + 2) fi) 6 (4 * σ 7 0 + 3) ui) 7 0 (σ 7 0 + 1) by unfold t_persecution; rw [if_pos rfl, xn_nI (n := gi) (by omega), xn_nI (n := ai) (by omega), xn_nI (n := fi) (by omega), xn_nI (n := ui) (by omega)]]; exact LL_of (by repeat (rw [sup_row _ _ _ (by decide)])) (by repeat (rw [sup_row _ _ _ (by decide)])) (by repeat (rw [sup_row _ _ _ (by decide)])) (fun _ _ => rfl) hL, by rw [show t_persecution σ (nI gi) (nI ai) (nI fi) (nI ui) 0 = sup (sup (sup (sup (sup σ 6 (4 * σ 7 0) gi) 6 (4 * σ 7 0 + 1) ai) 6 (4 * σ 7 0 + 2) fi) 6 (4 * σ 7 0 + 3) ui) 7 0 (σ 7 0 + 1) by unfold t_persecution; rw [if_pos rfl, xn_nI (n := gi) (by omega), xn_nI (n := ai) (by omega), xn_nI (n := fi) (by omega), xn_nI (n := ui) (by omega)]]; exact TE_of (congrFun (by repeat (rw [sup_row _ _ _ (by decide)])) 0) hT, nI_toInt (by omega)⟩ (Nat.le_of_ble_eq_true rfl) (Nat.le_of_ble_eq_true rfl) dX4_persecution_81
  · -- lt not
    have c_33 : ¬ ((nI (σ 7 0)).toInt < (nI (20)).toInt) := fun h => c_33 (Int32.lt_iff_toInt_lt.mpr h)
    rw [nI_toInt (n := σ 7 0) (by omega)] at c_33
    rw [nI_toInt (n := 20) (by omega)] at c_33
    exact y_throw (cls := xIse) (text := "there are 20 persecutions") hx hb hst0 hown ce_ise (hts (.classLink RX4 42 "java/lang/IllegalStateException") (by decide +kernel)) (hts (.initialized "java/lang/IllegalStateException") (by decide +kernel)) (fun w h => hts w (List.mem_cons_of_mem _ (List.mem_append_left _ (List.mem_append_left _ (List.mem_append_right _ h))))) (by decide +kernel) hW (hl.1.trans hml.symm) dX4_persecution_36 dX4_persecution_39 dX4_persecution_40 dX4_persecution_42 dX4_persecution_45 ⟨hout, hlocks⟩ (Nat.le_of_ble_eq_true rfl) (Nat.le_of_ble_eq_true rfl) ⟨Nat.le_of_ble_eq_true rfl, Nat.le_of_ble_eq_true rfl⟩ (px3 ⟨hq_1, hq_5⟩ hRR (by omega) rfl) ⟨Nat.le_of_ble_eq_true rfl, Nat.le_of_ble_eq_true rfl⟩
