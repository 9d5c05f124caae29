theorem st_yrs {σ : Sg} {T p kd a y i : Nat} (h8 : ∀ i, σ 11 i ≤ 8) (hT : σ 11 T < 8) : ∀ q, q < σ 11 i → yrs (sup (sup (sup (sup (sup σ 13 (8 * T + σ 11 T) p) 14 (8 * T + σ 11 T) kd) 15 (8 * T + σ 11 T) a) 16 (8 * T + σ 11 T) y) 11 T (σ 11 T + 1)) i q = yrs σ i q := by
  intro q hq
  have h1 := h8 i
  unfold yrs
  rw [sup_ne _ (by omega), sup_ne _ (fun hz => ?_), sup_ne _ (by omega), sup_ne _ (by omega), sup_ne _ (by omega)]
  have h2 := hz.2
  have h3 : i = T := by omega
  subst h3
  omega
theorem st_pre {σ : Sg} {τ : Tg} {T p kd a y : Nat} (hg : Gd σ) (hL : LL σ τ) (hT : T < σ 12 0) (hk : σ 11 T < 8) : LLo (tup (tup τ 3 (8 * T + σ 11 T) none) 4 (8 * T + σ 11 T) none) T (σ 11 T) (od (yrs (sup (sup (sup (sup (sup σ 13 (8 * T + σ 11 T) p) 14 (8 * T + σ 11 T) kd) 15 (8 * T + σ 11 T) a) 16 (8 * T + σ 11 T) y) 11 T (σ 11 T + 1)) T) (σ 11 T)) := by
  rw [od_congr (st_yrs hg.hs8 hk)]
  obtain ⟨h1, h2, h3⟩ := hL T hT
  refine ⟨?_, ?_, fun q hq => ?_⟩
  · rw [tup_ne _ (by omega), tup_ne _ (by omega)]; exact h1
  · rw [tup_ne _ (by omega), tup_ne _ (by omega)]; exact h2
  · have ho : ordr σ T q < σ 11 T := ordr_lt hq
    have h4 := h3 q hq
    have e : od (yrs σ T) (σ 11 T) = ordr σ T := rfl
    rw [e, tup_ne _ (by omega), tup_ne _ (by omega), tup_ne _ (by omega), tup_ne _ (by omega)]
    exact h4
theorem st_post {σ : Sg} {τ τ1 : Tg} {T p kd a y : Nat} (hg : Gd σ) (hL : LL σ τ) (hk : σ 11 T < 8) (hlo : LLo τ1 T (σ 11 T + 1) (ordr (sup (sup (sup (sup (sup σ 13 (8 * T + σ 11 T) p) 14 (8 * T + σ 11 T) kd) 15 (8 * T + σ 11 T) a) 16 (8 * T + σ 11 T) y) 11 T (σ 11 T + 1)) T)) (hts : TSame (tup (tup τ 3 (8 * T + σ 11 T) none) 4 (8 * T + σ 11 T) none) τ1 T) : LL (sup (sup (sup (sup (sup σ 13 (8 * T + σ 11 T) p) 14 (8 * T + σ 11 T) kd) 15 (8 * T + σ 11 T) a) 16 (8 * T + σ 11 T) y) 11 T (σ 11 T + 1)) τ1 := by
  have e12 : (sup (sup (sup (sup (sup σ 13 (8 * T + σ 11 T) p) 14 (8 * T + σ 11 T) kd) 15 (8 * T + σ 11 T) a) 16 (8 * T + σ 11 T) y) 11 T (σ 11 T + 1)) 12 0 = σ 12 0 := by repeat (rw [sup_ne _ (by omega)])
  have e11 : (sup (sup (sup (sup (sup σ 13 (8 * T + σ 11 T) p) 14 (8 * T + σ 11 T) kd) 15 (8 * T + σ 11 T) a) 16 (8 * T + σ 11 T) y) 11 T (σ 11 T + 1)) 11 T = σ 11 T + 1 := sup_self _ _ _ _
  have e11n : ∀ i, i ≠ T → (sup (sup (sup (sup (sup σ 13 (8 * T + σ 11 T) p) 14 (8 * T + σ 11 T) kd) 15 (8 * T + σ 11 T) a) 16 (8 * T + σ 11 T) y) 11 T (σ 11 T + 1)) 11 i = σ 11 i := fun i hi => by repeat (rw [sup_ne _ (by omega)])
  have eo : ∀ i, i ≠ T → ordr (sup (sup (sup (sup (sup σ 13 (8 * T + σ 11 T) p) 14 (8 * T + σ 11 T) kd) 15 (8 * T + σ 11 T) a) 16 (8 * T + σ 11 T) y) 11 T (σ 11 T + 1)) i = ordr σ i := fun i hi => by
    unfold ordr
    rw [e11n i hi, od_congr (st_yrs hg.hs8 hk)]
  intro i hi
  rw [e12] at hi
  by_cases h : i = T
  · subst h
    rw [e11]
    exact hlo
  · have h8 := hg.hs8 i
    rw [e11n i h, eo i h]
    obtain ⟨a1, a2⟩ := hts.2.1 i h
    rw [a1, a2, tup_ne _ (by omega), tup_ne _ (by omega), tup_ne _ (by omega), tup_ne _ (by omega)]
    obtain ⟨h1, h2, h3⟩ := hL i hi
    refine ⟨h1, h2, fun q hq => ?_⟩
    have ho : ordr σ i q < σ 11 i := ordr_lt hq
    obtain ⟨b1, b2⟩ := hts.2.2 (8 * i + ordr σ i q) (by omega)
    rw [b1, b2, tup_ne _ (by omega), tup_ne _ (by omega), tup_ne _ (by omega), tup_ne _ (by omega)]
    exact h3 q hq
theorem TE_row {σ : Sg} {τ τ1 : Tg} (h : ∀ x, τ1 0 x = τ 0 x) (hT : TE σ τ) : TE σ τ1 := fun i p hi hp => hT i p hi (by rw [← h]; exact hp)

set_option maxHeartbeats 4000000 in
set_option maxRecDepth 100000 in
theorem c_X4_station (l : Launch) (hst0 : l.stackTraces = false) (D : xD) (sa : Nat → Nat) (xa : xA) (G0 : xG) (σ : Sg) (τ : Tg) (hg : Gd σ) (hL : LL σ τ) (hT : TE σ τ) (t q kd a y : Int32) : xXi l yX4_station wsX4_station ({ frames := 16, cells := 6, slots := 39, locals := 500 } : Room) D sa xa (xGs G0 D xa σ τ) [.ref (xa 0 0), .int t, .int q, .int kd, .int a, .int y] (fun r u => (gk (pT σ t ∧ pP σ q ∧ pL a) (rg kd 0 5 ∧ 1900 ≤ y.toInt ∧ y.toInt ≤ σ 0 0) (σ 11 (xn t) < 8)) 0 ∧ xPo D xa G0 (t_station σ t q kd a y 0) (r.toInt = (σ 11 (xn t) : Int)) u) (pxk (gk (pT σ t ∧ pP σ q ∧ pL a) (rg kd 0 5 ∧ 1900 ≤ y.toInt ∧ y.toInt ≤ σ 0 0) (σ 11 (xn t) < 8)) xIob xIae xIse) 6 39 := by
  have hB := hg.1
  have h5 := hg.2.1.1
  have h7 := hg.2.1.2.1
  have h12 := hg.2.1.2.2.1
  have hy0 := hg.2.1.2.2.2.1
  have hy1 := hg.2.1.2.2.2.2
  have hm := hg.hm
  have hs8 := hg.hs8
  intro sz
  refine vx_ofW (cc := cX4_station) (maxL := 10) (ret := (some .int)) (by decide +kernel) rfl ?_
  intro p e s m args below meth c s₁ B hml hout hv
  obtain ⟨rfl, hsz, hv2⟩ := hv
  subst hsz
  have hx := B.exec
  have hb := B.bytes
  have hr := B.returns
  have hts := atoms_spec (ws := wsX4_station) B.pre
  have hown : s.vm.findClass RX4 = some m.cls := findClass_of_methodNamed B.named
  have hlocks := B.notSynchronized
  have hin4 : ∀ w ∈ wsX40, w ∈ wsX4_station := by decide +kernel
  have hin3 : ∀ w ∈ wsX30, w ∈ wsX4_station := by decide +kernel
  have hin2 : ∀ w ∈ wsX20, w ∈ wsX4_station := by decide +kernel
  have hW := xW.start (s := s) ⟨rfl, hv2⟩
  clear hv2
  generalize xAw xa (xGs G0 D xa σ τ) s.heap.size = A at hW ⊢
  have hl := lv_entry ([.ref (xa 0 0), .int (t), .int (q), .int (kd), .int (a), .int (y)]) (n := 10) (Nat.le_of_ble_eq_true rfl)
  rw [lg_entry_eq]
  generalize (lg_sl ([.ref (xa 0 0), .int (t), .int (q), .int (kd), .int (a), .int (y)]) ++ List.replicate (10 - (lg_sl ([.ref (xa 0 0), .int (t), .int (q), .int (kd), .int (a), .int (y)])).length) Slot.unset).toArray = ls at hl ⊢
  have hl : lv_has ls 10 [(0, .ref (xa 0 0)), (1, .int (t)), (2, .int (q)), (3, .int (kd)), (4, .int (a)), (5, .int (y))] := hl
  refine lv_aload_n hx hb dX4_station_0 rfl (lv_at hl 0 rfl) ?_
  refine lv_iload_n hx hb dX4_station_1 rfl (lv_at hl 1 rfl) ?_
  refine yv_r (k := 0) (i := 0) (As := [.int (t)]) (rest := []) ⟨hx, hb, hml, hown, hts⟩ (c_X4_thingNumbered l hst0 D sa xa G0 σ τ hg hL t) (cwV 1 hts gX4_station_X4_thingNumbered rfl rfl rfl (by decide +kernel) ⟨Nat.le_of_ble_eq_true rfl, Nat.le_of_ble_eq_true rfl⟩) ⟨hout, hlocks⟩ (fun E h => px1 (fun hh => h.2 hh.1) h.1) ⟨Nat.le_of_ble_eq_true rfl, Nat.le_of_ble_eq_true rfl⟩ hW ((xg_x G0 D xa σ τ)) rfl rfl rfl rfl hl.1 (Nat.le_of_ble_eq_true rfl) dX4_station_2 ⟨Nat.le_of_ble_eq_true rfl, Nat.le_of_ble_eq_true rfl⟩ (fun r_2 xa1 G1 H locs hp hW => ?_)
  obtain ⟨ti, hti, rfl, ha_2, hu⟩ := hp
  cases hu
  subst ha_2
  refine lv_astore (lv' := [(6, .ref (xa 13 ti)), (0, .ref (xa 0 0)), (1, .int (nI (ti))), (2, .int (q)), (3, .int (kd)), (4, .int (a)), (5, .int (y))]) hx hb dX4_station_5 hl (by decide) rfl (fun ls hl => ?_)
  have hl : lv_has ls 10 [(0, .ref (xa 0 0)), (1, .int (nI (ti))), (2, .int (q)), (3, .int (kd)), (4, .int (a)), (5, .int (y)), (6, .ref (xa 13 ti))] := lv_sub hl [1, 2, 3, 4, 5, 6, 0] rfl
  refine lv_aload_n hx hb dX4_station_7 rfl (lv_at hl 0 rfl) ?_
  refine lv_iload_n hx hb dX4_station_8 rfl (lv_at hl 2 rfl) ?_
  refine yv_r (k := 0) (i := 0) (As := [.int (q)]) (rest := []) ⟨hx, hb, hml, hown, hts⟩ (c_X4_personNumbered l hst0 D sa xa G0 σ τ hg hL q) (cwV 1 hts gX4_station_X4_personNumbered rfl rfl rfl (by decide +kernel) ⟨Nat.le_of_ble_eq_true rfl, Nat.le_of_ble_eq_true rfl⟩) ⟨hout, hlocks⟩ (fun E h => px1 (fun hh => h.2 hh.2.1) h.1) ⟨Nat.le_of_ble_eq_true rfl, Nat.le_of_ble_eq_true rfl⟩ hW ((xg_x G0 D xa σ τ)) rfl rfl rfl rfl hl.1 (Nat.le_of_ble_eq_true rfl) dX4_station_9 ⟨Nat.le_of_ble_eq_true rfl, Nat.le_of_ble_eq_true rfl⟩ (fun r_9 xa1 G1 H locs hp hW => ?_)
  obtain ⟨pi, hpi, rfl, ha_9, hu⟩ := hp
  cases hu
  subst ha_9
  refine lv_astore (lv' := [(7, .ref (xa 10 pi)), (0, .ref (xa 0 0)), (1, .int (nI (ti))), (2, .int (nI (pi))), (3, .int (kd)), (4, .int (a)), (5, .int (y)), (6, .ref (xa 13 ti))]) hx hb dX4_station_12 hl (by decide) rfl (fun ls hl => ?_)
  have hl : lv_has ls 10 [(0, .ref (xa 0 0)), (1, .int (nI (ti))), (2, .int (nI (pi))), (3, .int (kd)), (4, .int (a)), (5, .int (y)), (6, .ref (xa 13 ti)), (7, .ref (xa 10 pi))] := lv_sub hl [1, 2, 3, 4, 5, 6, 7, 0] rfl
  refine lv_iload hx hb dX4_station_14 (lv_at hl 4 rfl) ?_
  refine ys_v (As := [.int (a)]) (rest := []) ⟨hx, hb, hml, hown, hts⟩ (c_X4_requireLand l hst0 D sa xa (xGs G0 D xa σ τ) a) (va_cwS 1 hts gX4_station_X4_requireLand rfl rfl rfl (by decide +kernel) ⟨Nat.le_of_ble_eq_true rfl, Nat.le_of_ble_eq_true rfl⟩) ⟨hout, hlocks⟩ (fun E h => px1 (fun hh => h.2 hh.2.2) h.1) ⟨Nat.le_of_ble_eq_true rfl, Nat.le_of_ble_eq_true rfl⟩ hW rfl rfl hl.1 (Nat.le_of_ble_eq_true rfl) dX4_station_16 ⟨Nat.le_of_ble_eq_true rfl, Nat.le_of_ble_eq_true rfl⟩ (fun xa1 G1 H locs hp hW => ?_)
  obtain ⟨hu, hq_16⟩ := hp
  cases hu
  refine lv_iload_n hx hb dX4_station_19 rfl (lv_at hl 3 rfl) ?_
  refine lv_iconst (v := nI (0)) hx hb dX4_station_20 (by decide +kernel) ?_
  refine lv_iconst (v := nI (5)) hx hb dX4_station_21 (by decide +kernel) ?_
  refine ys_v (As := [.int (kd), .int (nI (0)), .int (nI (5))]) (rest := []) ⟨hx, hb, hml, hown, hts⟩ (c_X4_requireRange l hst0 D sa xa (xGs G0 D xa σ τ) kd (nI (0)) (nI (5))) (va_cwS 3 hts gX4_station_X4_requireRange rfl rfl rfl (by decide +kernel) ⟨Nat.le_of_ble_eq_true rfl, Nat.le_of_ble_eq_true rfl⟩) ⟨hout, hlocks⟩ (fun E h => px2 ⟨(pT_of hti h12), (pP_of hpi h5), hq_16⟩ (fun hh => h.2 ((rg_in (by omega) (by omega)).mpr hh.1)) h.1) ⟨Nat.le_of_ble_eq_true rfl, Nat.le_of_ble_eq_true rfl⟩ hW rfl rfl hl.1 (Nat.le_of_ble_eq_true rfl) dX4_station_22 ⟨Nat.le_of_ble_eq_true rfl, Nat.le_of_ble_eq_true rfl⟩ (fun xa1 G1 H locs hp hW => ?_)
  obtain ⟨hu, hq_22⟩ := hp
  cases hu
  refine lv_iload hx hb dX4_station_25 (lv_at hl 5 rfl) ?_
  refine lv_sipush (v := nI (1900)) hx hb dX4_station_27 (by decide +kernel) ?_
  refine lv_aload_n hx hb dX4_station_30 rfl (lv_at hl 0 rfl) ?_
  refine x_get hx hb hts hin4 hown hW 0 0 ((xg_x G0 D xa σ τ)) rfl 5 (by decide) (hts (.fieldLink RX4 25 "Restitutory" "currentYear" "I") (by decide +kernel)) rfl (v := .int (nI (σ 0 0))) (rfl) dX4_station_31 ?_
  have b_31 := hB 0 0
  refine ys_v (As := [.int (y), .int (nI (1900)), .int (nI (σ 0 0))]) (rest := []) ⟨hx, hb, hml, hown, hts⟩ (c_X4_requireRange l hst0 D sa xa (xGs G0 D xa σ τ) y (nI (1900)) (nI (σ 0 0))) (va_cwS 3 hts gX4_station_X4_requireRange rfl rfl rfl (by decide +kernel) ⟨Nat.le_of_ble_eq_true rfl, Nat.le_of_ble_eq_true rfl⟩) ⟨hout, hlocks⟩ (fun E h => px2 ⟨(pT_of hti h12), (pP_of hpi h5), hq_16⟩ (fun hh => h.2 ⟨by rw [nI_toInt (by omega)]; exact hh.2.1, by rw [nI_toInt (by omega)]; exact hh.2.2⟩) h.1) ⟨Nat.le_of_ble_eq_true rfl, Nat.le_of_ble_eq_true rfl⟩ hW rfl rfl hl.1 (Nat.le_of_ble_eq_true rfl) dX4_station_34 ⟨Nat.le_of_ble_eq_true rfl, Nat.le_of_ble_eq_true rfl⟩ (fun xa1 G1 H locs hp hW => ?_)
  obtain ⟨hu, hq_34⟩ := hp
  cases hu
  have hLa := hq_16
  have hRk := (rg_in (a := 0) (b := 5) (by omega) (by omega)).mp hq_22
  have hRR : rg kd 0 5 ∧ 1900 ≤ y.toInt ∧ y.toInt ≤ σ 0 0 := ⟨hRk, by have h_ := hq_34.1; rw [nI_toInt (by omega)] at h_; exact h_, by have h_ := hq_34.2; rw [nI_toInt (by omega)] at h_; exact h_⟩
  have hz := hRR
  unfold rg at hz
  have hza := hLa
  unfold pL at hza
  obtain ⟨ki, hki, rfl⟩ := x_nat (n := 6) (x := kd) (by omega) (by omega)
  obtain ⟨ai, hai, rfl⟩ := x_nat (n := 5) (x := a) (by omega) (by omega)
  obtain ⟨yi, hyi, rfl⟩ := x_nat (n := 2101) (x := y) (by omega) (by omega)
  refine lv_aload hx hb dX4_station_37 (lv_at hl 6 rfl) ?_
  refine x_get hx hb hts hin3 hown hW 13 ti ((xg_t G0 D xa σ τ (i := ti) (by first | exact hti2 | exact hti))) rfl 3 (by decide) (hts (.fieldLink RX4 108 "Restitutory$Thing" "stationCount" "I") (by decide +kernel)) rfl (v := .int (nI (σ 11 ti))) (rfl) dX4_station_39 ?_
  have b_39 := hB 11 ti
  refine lv_istore (lv' := [(8, .int (nI (σ 11 ti))), (0, .ref (xa 0 0)), (1, .int (nI (ti))), (2, .int (nI (pi))), (3, .int (nI (ki))), (4, .int (nI (ai))), (5, .int (nI (yi))), (6, .ref (xa 13 ti)), (7, .ref (xa 10 pi))]) hx hb dX4_station_42 hl (by decide) rfl (fun ls hl => ?_)
  have hl : lv_has ls 10 [(0, .ref (xa 0 0)), (1, .int (nI (ti))), (2, .int (nI (pi))), (3, .int (nI (ki))), (4, .int (nI (ai))), (5, .int (nI (yi))), (6, .ref (xa 13 ti)), (7, .ref (xa 10 pi)), (8, .int (nI (σ 11 ti)))] := lv_sub hl [1, 2, 3, 4, 5, 6, 7, 8, 0] rfl
  refine lv_iload hx hb dX4_station_44 (lv_at hl 8 rfl) ?_
  refine lv_bipush (v := nI (8)) hx hb dX4_station_46 (by decide +kernel) ?_
  refine lv_icmp_lt (tgt := 61) hx hb dX4_station_48 (by decide) (fun c_48 => ?_) (fun c_48 => ?_)
  · -- lt taken
    have c_48 := Int32.lt_iff_toInt_lt.mp c_48
    rw [nI_toInt (n := σ 11 ti) (by omega)] at c_48
    rw [nI_toInt (n := 8) (by omega)] at c_48
    have hk8 : σ 11 ti < 8 := by omega
    refine x_new hx hb hts hin2 tyX2 tyX2_ok hown (hts (.classLink RX4 113 RX2) (by decide +kernel)) (hts (.instantiable RX2 9) (by decide +kernel)) (hts (.initialized RX2) (by decide +kernel)) hW 15 ((8 * ti + σ 11 ti)) (ci := 2) ((if_pos (by omega)).trans (if_neg (fun hz => by have h5 := hz.2; rw [show (8 * ti + σ 11 ti) / 8 = ti by omega] at h5; omega))) rfl (fs := [.int (nI 0), .null, .int (nI 0), .int (nI 0), .int (nI 0), .int (nI 0), .int (nI 0), .null, .null]) (fun j hj => match j, hj with | 0, _ => rfl | 1, _ => rfl | 2, _ => rfl | 3, _ => rfl | 4, _ => rfl | 5, _ => rfl | 6, _ => rfl | 7, _ => rfl | 8, _ => rfl | j + 9, hj => absurd hj (by omega)) (Nat.le_of_ble_eq_true rfl) (Nat.le_of_ble_eq_true rfl) dX4_station_61 fun xb1 H hxb1 hW => ?_
    have hl : lv_has ls 10 [(0, .ref (xb1 0 0)), (1, .int (nI (ti))), (2, .int (nI (pi))), (3, .int (nI (ki))), (4, .int (nI (ai))), (5, .int (nI (yi))), (6, .ref (xb1 13 ti)), (7, .ref (xb1 10 pi)), (8, .int (nI (σ 11 ti)))] := by rw [hxb1 0 0 (by omega), hxb1 13 ti (by omega), hxb1 10 pi (by omega)]; exact hl
    rw [xGs_xa G0 D (xa := xa) (xa1 := xb1) hg hL hT (fun k_ i_ g1 g2 g3 g4 => hxb1 k_ i_ (fun hz => by have h5 := (g4 hz.1).2; rw [show i_ / 8 = ti by omega] at h5; omega))] at hW
    refine lv_dup hx hb dX4_station_64 rfl ?_
    refine lv_iload hx hb dX4_station_65 (lv_at hl 8 rfl) ?_
    refine lv_aload hx hb dX4_station_67 (lv_at hl 7 rfl) ?_
    refine lv_iload_n hx hb dX4_station_69 rfl (lv_at hl 3 rfl) ?_
    refine lv_iload hx hb dX4_station_70 (lv_at hl 4 rfl) ?_
    refine lv_iload hx hb dX4_station_72 (lv_at hl 5 rfl) ?_
    refine xi_v (k := 15) (i := ((8 * ti + σ 11 ti))) (As := [.int (nI (σ 11 ti)), .ref (xb1 10 pi), .int (nI (ki)), .int (nI (ai)), .int (nI (yi))]) (rest := [.ref (xb1 15 ((8 * ti + σ 11 ti)))]) ⟨hx, hb, hml, hown, hts⟩ (c_X2_init l D sa xb1 (xup (xGs G0 D xb1 σ τ) 15 (((8 * ti + σ 11 ti))) (.inr (2, [.int (nI (0)), .null, .int (nI (0)), .int (nI (0)), .int (nI (0)), .int (nI (0)), .int (nI (0)), .null, .null]))) (8 * ti + σ 11 ti) (σ 11 ti) pi ki ai yi ((xup_self _ _ _ _))) (cwI 5 hts gX4_station_X2_init rfl rfl rfl (hts (.initialized RX2) (by decide +kernel)) (hts (.methodLink RX4 115 yX2_init) (by decide +kernel)) (hts (.instanceMethod yX2_init) (by decide +kernel)) rfl (by decide +kernel) ⟨Nat.le_of_ble_eq_true rfl, Nat.le_of_ble_eq_true rfl⟩) hW rfl rfl hl.1 (Nat.le_of_ble_eq_true rfl) dX4_station_74 ⟨Nat.le_of_ble_eq_true rfl, Nat.le_of_ble_eq_true rfl⟩ (fun xa1 G1 H locs hp hW => ?_)
    cases hp
    have hW : xW D sa A s xb1 (xup (xGs G0 D xb1 σ τ) 15 ((8 * ti + σ 11 ti)) (.inr (2, [.int (nI (σ 11 ti)), .ref (xb1 10 pi), .int (nI (ki)), .int (nI (ai)), .int (nI (yi)), .int (nI (0)), .int (nI (0)), .null, .null]))) H locs := hW.eqG (xup_sq _ _ _ _ _).symm
    refine lv_astore (lv' := [(9, .ref (xb1 15 ((8 * ti + σ 11 ti)))), (0, .ref (xb1 0 0)), (1, .int (nI (ti))), (2, .int (nI (pi))), (3, .int (nI (ki))), (4, .int (nI (ai))), (5, .int (nI (yi))), (6, .ref (xb1 13 ti)), (7, .ref (xb1 10 pi)), (8, .int (nI (σ 11 ti)))]) hx hb dX4_station_77 hl (by decide) rfl (fun ls hl => ?_)
    have hl : lv_has ls 10 [(0, .ref (xb1 0 0)), (1, .int (nI (ti))), (2, .int (nI (pi))), (3, .int (nI (ki))), (4, .int (nI (ai))), (5, .int (nI (yi))), (6, .ref (xb1 13 ti)), (7, .ref (xb1 10 pi)), (8, .int (nI (σ 11 ti))), (9, .ref (xb1 15 ((8 * ti + σ 11 ti))))] := lv_sub hl [1, 2, 3, 4, 5, 6, 7, 8, 9, 0] rfl
    refine lv_aload hx hb dX4_station_79 (lv_at hl 6 rfl) ?_
    refine x_get hx hb hts hin3 hown hW 13 ti ((xup_ne _ _ (by omega)).trans ((xg_t G0 D xb1 σ τ (i := ti) (by first | exact hti2 | exact hti)))) rfl 2 (by decide) (hts (.fieldLink RX4 118 "Restitutory$Thing" "stations" "[LRestitutory$Station;") (by decide +kernel)) rfl (v := .ref (xb1 14 ti)) (rfl) dX4_station_81 ?_
    refine lv_iload hx hb dX4_station_84 (lv_at hl 8 rfl) ?_
    refine lv_aload hx hb dX4_station_86 (lv_at hl 9 rfl) ?_
    refine x_ast hx hb hW 14 ti 3 (r := (_, _, _)) rfl ((xup_ne _ _ (by omega)).trans ((xg_sa G0 D xb1 σ τ (i := ti) (by omega)))) 15 ((8 * ti + σ 11 ti)) ((xup_self _ _ _ _)) (ci := 2) rfl (σ 11 ti) rfl (by omega) (by omega) dX4_station_88 fun H locs hW => ?_
    refine lv_aload hx hb dX4_station_89 (lv_at hl 6 rfl) ?_
    refine lv_iload hx hb dX4_station_91 (lv_at hl 8 rfl) ?_
    refine lv_iconst (v := nI (1)) hx hb dX4_station_93 (by decide +kernel) ?_
    refine lv_iadd hx hb dX4_station_94 ?_
    rw [nI_add]
    refine x_put (ty := .int) (v := .int (nI ((σ 11 ti) + 1))) hx hb hts hin3 tyX3 tyX3_ok nmX3 hown hW 13 (ti) (fs := tfs xb1 σ τ (ti)) ((xup_ne _ _ (by omega)).trans ((xup_ne _ _ (by omega)).trans ((xg_t G0 D xb1 σ τ (i := ti) (by first | exact hti2 | exact hti))))) rfl 3 (by decide) (hts (.fieldLink RX4 108 "Restitutory$Thing" "stationCount" "I") (by decide +kernel)) rfl rfl (by decide +kernel) rfl rfl (Nat.le_of_ble_eq_true rfl) dX4_station_95 fun H locs hW => ?_
    have hW := hW.eqG (xf_station G0 D xb1 hg (p := pi) (kd := ki) (a := ai) (y := yi) hti hk8).symm
    have hg2 : Gd (sup (sup (sup (sup (sup σ 13 (8 * ti + σ 11 ti) pi) 14 (8 * ti + σ 11 ti) ki) 15 (8 * ti + σ 11 ti) ai) 16 (8 * ti + σ 11 ti) yi) 11 ti (σ 11 ti + 1)) := by
      have h_ := g_station hg (gk.mk0 (P := pT σ (nI ti) ∧ pP σ (nI pi) ∧ pL (nI ai)) (Q := rg (nI ki) 0 5 ∧ 1900 ≤ (nI yi).toInt ∧ (nI yi).toInt ≤ σ 0 0) (R := σ 11 (xn (nI ti)) < 8) ⟨(pT_of hti h12), (pP_of hpi h5), hLa⟩ hRR (by rw [xn_nI (by omega)]; exact hk8))
      rw [show t_station σ (nI ti) (nI pi) (nI ki) (nI ai) (nI yi) 0 = sup (sup (sup (sup (sup σ 13 (8 * ti + σ 11 ti) pi) 14 (8 * ti + σ 11 ti) ki) 15 (8 * ti + σ 11 ti) ai) 16 (8 * ti + σ 11 ti) yi) 11 ti (σ 11 ti + 1) by unfold t_station; rw [if_pos rfl, xn_nI (n := ti) (by omega), xn_nI (n := pi) (by omega), xn_nI (n := ki) (by omega), xn_nI (n := ai) (by omega), xn_nI (n := yi) (by omega)]] at h_
      exact h_
    have hti2 : ti < (sup (sup (sup (sup (sup σ 13 (8 * ti + σ 11 ti) pi) 14 (8 * ti + σ 11 ti) ki) 15 (8 * ti + σ 11 ti) ai) 16 (8 * ti + σ 11 ti) yi) 11 ti (σ 11 ti + 1)) 12 0 := by
      rw [sup_ne _ (by omega), sup_ne _ (by omega), sup_ne _ (by omega), sup_ne _ (by omega), sup_ne _ (by omega)]
      exact hti
    refine lv_aload hx hb dX4_station_98 (lv_at hl 6 rfl) ?_
    refine lv_aload hx hb dX4_station_100 (lv_at hl 9 rfl) ?_
    refine xv_v (k := 13) (i := ti) (As := [.ref (xb1 15 ((8 * ti + σ 11 ti)))]) (rest := []) ⟨hx, hb, hml, hown, hts⟩ (c_X3_putInOrder l D sa xb1 G0 (sup (sup (sup (sup (sup σ 13 (8 * ti + σ 11 ti) pi) 14 (8 * ti + σ 11 ti) ki) 15 (8 * ti + σ 11 ti) ai) 16 (8 * ti + σ 11 ti) yi) 11 ti (σ 11 ti + 1)) (tup (tup τ 3 (8 * ti + σ 11 ti) none) 4 (8 * ti + σ 11 ti) none) hg2 ti (σ 11 ti) hti2 (sup_self _ _ _ _) (st_pre hg hL hti hk8)) (cwV 1 hts gX4_station_X3_putInOrder rfl rfl rfl (by decide +kernel) ⟨Nat.le_of_ble_eq_true rfl, Nat.le_of_ble_eq_true rfl⟩) hW ((xg_t G0 D xb1 (sup (sup (sup (sup (sup σ 13 (8 * ti + σ 11 ti) pi) 14 (8 * ti + σ 11 ti) ki) 15 (8 * ti + σ 11 ti) ai) 16 (8 * ti + σ 11 ti) yi) 11 ti (σ 11 ti + 1)) (tup (tup τ 3 (8 * ti + σ 11 ti) none) 4 (8 * ti + σ 11 ti) none) (i := ti) (by first | exact hti2 | exact hti))) rfl rfl rfl rfl hl.1 (Nat.le_of_ble_eq_true rfl) dX4_station_102 ⟨Nat.le_of_ble_eq_true rfl, Nat.le_of_ble_eq_true rfl⟩ (fun xa1 G1 H locs hp hW => ?_)
    obtain ⟨τ1, hu, hlo, hts1⟩ := hp
    cases hu
    refine lv_iload hx hb dX4_station_105 (lv_at hl 8 rfl) ?_
    exact ye_i hx hb hr rfl hlocks hW ⟨gk.mk0 (P := pT σ (nI ti) ∧ pP σ (nI pi) ∧ pL (nI ai)) (Q := rg (nI ki) 0 5 ∧ 1900 ≤ (nI yi).toInt ∧ (nI yi).toInt ≤ σ 0 0) (R := σ 11 (xn (nI ti)) < 8) ⟨(pT_of hti h12), (pP_of hpi h5), hLa⟩ hRR (by rw [xn_nI (by omega)]; exact hk8), xb1, τ1, fun k i hk => hxb1 k i (by omega), by rw [show t_station σ (nI ti) (nI pi) (nI ki) (nI ai) (nI yi) 0 = sup (sup (sup (sup (sup σ 13 (8 * ti + σ 11 ti) pi) 14 (8 * ti + σ 11 ti) ki) 15 (8 * ti + σ 11 ti) ai) 16 (8 * ti + σ 11 ti) yi) 11 ti (σ 11 ti + 1) by unfold t_station; rw [if_pos rfl, xn_nI (n := ti) (by omega), xn_nI (n := pi) (by omega), xn_nI (n := ki) (by omega), xn_nI (n := ai) (by omega), xn_nI (n := yi) (by omega)]], by rw [show t_station σ (nI ti) (nI pi) (nI ki) (nI ai) (nI yi) 0 = sup (sup (sup (sup (sup σ 13 (8 * ti + σ 11 ti) pi) 14 (8 * ti + σ 11 ti) ki) 15 (8 * ti + σ 11 ti) ai) 16 (8 * ti + σ 11 ti) yi) 11 ti (σ 11 ti + 1) by unfold t_station; rw [if_pos rfl, xn_nI (n := ti) (by omega), xn_nI (n := pi) (by omega), xn_nI (n := ki) (by omega), xn_nI (n := ai) (by omega), xn_nI (n := yi) (by omega)]]; exact st_post hg hL hk8 hlo hts1, by rw [show t_station σ (nI ti) (nI pi) (nI ki) (nI ai) (nI yi) 0 = sup (sup (sup (sup (sup σ 13 (8 * ti + σ 11 ti) pi) 14 (8 * ti + σ 11 ti) ki) 15 (8 * ti + σ 11 ti) ai) 16 (8 * ti + σ 11 ti) yi) 11 ti (σ 11 ti + 1) by unfold t_station; rw [if_pos rfl, xn_nI (n := ti) (by omega), xn_nI (n := pi) (by omega), xn_nI (n := ki) (by omega), xn_nI (n := ai) (by omega), xn_nI (n := yi) (by omega)]]; exact TE_of (by repeat (rw [sup_ne _ (by omega)])) (TE_row (fun x => hts1.1 x) hT), by rw [xn_nI (by omega)]; exact nI_toInt (by omega)⟩ (Nat.le_of_ble_eq_true rfl) (Nat.le_of_ble_eq_true rfl) dX4_station_107
  · -- lt not
    have c_48 : ¬ ((nI (σ 11 ti)).toInt < (nI (8)).toInt) := fun h => c_48 (Int32.lt_iff_toInt_lt.mpr h)
    rw [nI_toInt (n := σ 11 ti) (by omega)] at c_48
    rw [nI_toInt (n := 8) (by omega)] at c_48
    exact y_throw (cls := xIse) (text := "the thing has 8 stations") hx hb hst0 hown ce_ise (hts (.classLink RX4 42 "java/lang/IllegalStateException") (by decide +kernel)) (hts (.initialized "java/lang/IllegalStateException") (by decide +kernel)) (fun w h => hts w (List.mem_cons_of_mem _ (List.mem_append_left _ (List.mem_append_left _ (List.mem_append_right _ h))))) (by decide +kernel) hW (hl.1.trans hml.symm) dX4_station_51 dX4_station_54 dX4_station_55 dX4_station_57 dX4_station_60 ⟨hout, hlocks⟩ (Nat.le_of_ble_eq_true rfl) (Nat.le_of_ble_eq_true rfl) ⟨Nat.le_of_ble_eq_true rfl, Nat.le_of_ble_eq_true rfl⟩ (px3 ⟨(pT_of hti h12), (pP_of hpi h5), hLa⟩ hRR (by rw [xn_nI (by omega)]; omega) rfl) ⟨Nat.le_of_ble_eq_true rfl, Nat.le_of_ble_eq_true rfl⟩
