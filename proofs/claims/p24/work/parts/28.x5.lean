theorem xmap_inj {D : xD} {sa : Nat → Nat} {A : Nat → Prop} {s : State} {xa : xA} {G0 : xG} {σ : Sg} {τ : Tg} {H : Heap} {locs : List Loc} (hW : xW D sa A s xa (xGs G0 D xa σ τ) H locs) {o : Option Nat} {x : Nat} (ho : ∀ a, o = some a → a < σ 5 0) (hx : x < σ 5 0) : o.map (xa 10) = some (xa 10 x) ↔ o = some x := by
  constructor
  · intro h
    cases o with
    | none => cases h
    | some a => rw [(hW.inj (xg_p G0 D xa σ τ (ho a rfl)) (xg_p G0 D xa σ τ hx) (Option.some.inj h)).2]
  · intro h
    rw [h]
    rfl
theorem own_ex (σ : Sg) (i : Nat) : ∃ r, own σ i r := by
  by_cases h : σ 11 i = 0
  · exact ⟨none, Or.inl ⟨h, rfl⟩⟩
  · obtain ⟨t, ht⟩ := ttl_ex σ i (ordr σ i) (σ 11 i) (σ 11 i - 1)
    exact ⟨lif σ t, Or.inr ⟨by omega, t, ht, rfl⟩⟩

theorem lst_self {σ : Sg} {t k : Nat} (h : k = t) : lst σ t (k + 1) = lst σ t k := by
  rw [lst]
  cases lst σ t k with
  | none => dsimp only; rw [if_pos h]
  | some b => dsimp only; rw [if_neg (fun h2 => h2.1 h)]
theorem lst_a {σ : Sg} {t k : Nat} (h : ¬ k = t) (h0 : lst σ t k = none) : lst σ t (k + 1) = some k := by
  rw [lst, h0]; dsimp only; rw [if_neg h]
theorem lst_b {σ : Sg} {t k : Nat} (h0 : ∃ b, lst σ t k = some b ∧ ¬ lk σ t b < lk σ t k) : lst σ t (k + 1) = lst σ t k := by
  obtain ⟨b, h1, h2⟩ := h0
  rw [lst, h1]; dsimp only; rw [if_neg (fun h => h2 h.2)]
theorem lst_c {σ : Sg} {t k : Nat} (h : ¬ k = t) (h0 : ∃ b, lst σ t k = some b ∧ lk σ t b < lk σ t k) : lst σ t (k + 1) = some k := by
  obtain ⟨b, h1, h2⟩ := h0
  rw [lst, h1]; dsimp only; rw [if_pos ⟨h, h2⟩]

set_option maxHeartbeats 4000000 in
set_option maxRecDepth 100000 in
theorem c_X4_likest (l : Launch) (hst0 : l.stackTraces = false) (D : xD) (sa : Nat → Nat) (xa : xA) (G0 : xG) (σ : Sg) (τ : Tg) (hg : Gd σ) (hL : LL σ τ) (t : Int32) : xXi l yX4_likest wsX4_likest ({ frames := 16, cells := 1, slots := 6, locals := 500 } : Room) D sa xa (xGs G0 D xa σ τ) [.ref (xa 0 0), .int t] (fun r u => (gk (pT σ t) True True) 0 ∧ u = (xa, xGs G0 D xa σ τ) ∧ r = oi (lst σ (xn t) (σ 12 0))) (pxk (gk (pT σ t) True True) xIob xIob xIob) 1 6 := by
  have hB := hg.1
  have h5 := hg.2.1.1
  have h7 := hg.2.1.2.1
  have h12 := hg.2.1.2.2.1
  have hy0 := hg.2.1.2.2.2.1
  have hy1 := hg.2.1.2.2.2.2
  have hm := hg.hm
  have hs8 := hg.hs8
  intro sz
  refine vx_ofW (cc := cX4_likest) (maxL := 8) (ret := (some .int)) (by decide +kernel) rfl ?_
  intro p e s m args below meth c s₁ B hml hout hv
  obtain ⟨rfl, hsz, hv2⟩ := hv
  subst hsz
  have hx := B.exec
  have hb := B.bytes
  have hr := B.returns
  have hts := atoms_spec (ws := wsX4_likest) B.pre
  have hown : s.vm.findClass RX4 = some m.cls := findClass_of_methodNamed B.named
  have hlocks := B.notSynchronized
  have hin4 : ∀ w ∈ wsX40, w ∈ wsX4_likest := by decide +kernel
  have hin3 : ∀ w ∈ wsX30, w ∈ wsX4_likest := by decide +kernel
  have hW := xW.start (s := s) ⟨rfl, hv2⟩
  clear hv2
  generalize xAw xa (xGs G0 D xa σ τ) s.heap.size = A at hW ⊢
  have hl := lv_entry ([.ref (xa 0 0), .int (t)]) (n := 8) (Nat.le_of_ble_eq_true rfl)
  rw [lg_entry_eq]
  generalize (lg_sl ([.ref (xa 0 0), .int (t)]) ++ List.replicate (8 - (lg_sl ([.ref (xa 0 0), .int (t)])).length) Slot.unset).toArray = ls at hl ⊢
  have hl : lv_has ls 8 [(0, .ref (xa 0 0)), (1, .int (t))] := hl
  refine lv_aload_n hx hb dX4_likest_0 rfl (lv_at hl 0 rfl) ?_
  refine lv_iload_n hx hb dX4_likest_1 rfl (lv_at hl 1 rfl) ?_
  refine yv_r (k := 0) (i := 0) (As := [.int (t)]) (rest := []) ⟨hx, hb, hml, hown, hts⟩ (c_X4_thingNumbered l hst0 D sa xa G0 σ τ hg hL t) (cwV 1 hts gX4_likest_X4_thingNumbered rfl rfl rfl (by decide +kernel) ⟨Nat.le_of_ble_eq_true rfl, Nat.le_of_ble_eq_true rfl⟩) ⟨hout, hlocks⟩ (fun E h => px1 h.2 h.1) ⟨Nat.le_of_ble_eq_true rfl, Nat.le_of_ble_eq_true rfl⟩ hW (xg_x G0 D xa σ τ) rfl rfl rfl rfl hl.1 (Nat.le_of_ble_eq_true rfl) dX4_likest_2 ⟨Nat.le_of_ble_eq_true rfl, Nat.le_of_ble_eq_true rfl⟩ (fun r_2 xa1 G1 H locs hp hW => ?_)
  obtain ⟨ti, hti, rfl, ha_2, hu⟩ := hp
  cases hu
  subst ha_2
  refine lv_astore_n (lv' := [(2, .ref (xa 13 ti)), (0, .ref (xa 0 0)), (1, .int (nI (ti)))]) hx hb dX4_likest_5 rfl hl (by decide) rfl (fun ls hl => ?_)
  have hl : lv_has ls 8 [(0, .ref (xa 0 0)), (1, .int (nI (ti))), (2, .ref (xa 13 ti))] := lv_sub hl [1, 2, 0] rfl
  refine lv_iconst (v := -1) hx hb dX4_likest_6 (by decide +kernel) ?_
  refine lv_istore_n (lv' := [(3, .int (-1)), (0, .ref (xa 0 0)), (1, .int (nI (ti))), (2, .ref (xa 13 ti))]) hx hb dX4_likest_7 rfl hl (by decide) rfl (fun ls hl => ?_)
  have hl : lv_has ls 8 [(0, .ref (xa 0 0)), (1, .int (nI (ti))), (2, .ref (xa 13 ti)), (3, .int (-1))] := lv_sub hl [1, 2, 3, 0] rfl
  refine lv_iconst (v := nI (0)) hx hb dX4_likest_8 (by decide +kernel) ?_
  refine lv_istore (lv' := [(4, .int (nI (0))), (0, .ref (xa 0 0)), (1, .int (nI (ti))), (2, .ref (xa 13 ti)), (3, .int (-1))]) hx hb dX4_likest_9 hl (by decide) rfl (fun ls hl => ?_)
  have hl : lv_has ls 8 [(0, .ref (xa 0 0)), (1, .int (nI (ti))), (2, .ref (xa 13 ti)), (3, .int (-1)), (4, .int (nI (0)))] := lv_sub hl [1, 2, 3, 4, 0] rfl
  refine lv_iconst (v := nI (0)) hx hb dX4_likest_11 (by decide +kernel) ?_
  refine lv_istore (lv' := [(5, .int (nI (0))), (0, .ref (xa 0 0)), (1, .int (nI (ti))), (2, .ref (xa 13 ti)), (3, .int (-1)), (4, .int (nI (0)))]) hx hb dX4_likest_12 hl (by decide) rfl (fun ls hl => ?_)
  have hl : lv_has ls 8 [(0, .ref (xa 0 0)), (1, .int (nI (ti))), (2, .ref (xa 13 ti)), (3, .int (-1)), (4, .int (nI (0))), (5, .int (nI (0)))] := lv_sub hl [1, 2, 3, 4, 5, 0] rfl
  have e0 : (-1 : Int32) = oi (lst σ ti (min 0 (σ 12 0))) := by rw [Nat.zero_min]; rfl
  rw [e0] at hl
  refine x_loop (X := Nat × Int32) (I := fun n xv H locs ls => n = 10 - xv.1 ∧ xW D sa A s xa (xGs G0 D xa σ τ) H locs ∧ lv_has ls 8 [(0, .ref (xa 0 0)), (1, .int (nI (ti))), (2, .ref (xa 13 ti)), (3, .int (oi (lst σ ti (min xv.1 (σ 12 0))))), (4, .int (xv.2)), (5, .int (nI (xv.1)))] ∧ (∀ b, lst σ ti (min xv.1 (σ 12 0)) = some b → (xv.2).toInt = lk σ ti b) ∧ (xv.1 ≤ 10)) (hd := 14) ?_ (n := _) (x := (0, nI 0)) ⟨rfl, hW, hl, (fun b h_ => by rw [Nat.zero_min] at h_; cases h_), by (try dsimp only); omega⟩
  rintro n ⟨k, bl⟩ H locs ls ⟨hn, hW, hl, hbl, hk⟩ ih14
  try dsimp only at hn hW hl hbl hk
  refine lv_iload hx hb dX4_likest_14 (lv_at hl 5 rfl) ?_
  refine lv_bipush (v := nI (10)) hx hb dX4_likest_16 (by decide +kernel) ?_
  refine lv_icmp_ge (tgt := 77) hx hb dX4_likest_18 (by decide) (fun c_18 => ?_) (fun c_18 => ?_)
  · -- ge taken
    have c_18 := Int32.le_iff_toInt_le.mp c_18
    rw [nI_toInt (n := k) (by omega)] at c_18
    rw [nI_toInt (n := 10) (by omega)] at c_18
    refine lv_iload_n hx hb dX4_likest_77 rfl (lv_at hl 3 rfl) ?_
    exact ye_i hx hb hr rfl hlocks hW ⟨gk.mk0 (pT_of hti h12) trivial trivial, rfl, by rw [xn_nI (by omega), show min k (σ 12 0) = σ 12 0 by omega]⟩ (Nat.le_of_ble_eq_true rfl) (Nat.le_of_ble_eq_true rfl) dX4_likest_78
  · -- ge not
    have c_18 : ¬ ((nI (10)).toInt ≤ (nI (k)).toInt) := fun h => c_18 (Int32.le_iff_toInt_le.mpr h)
    rw [nI_toInt (n := k) (by omega)] at c_18
    rw [nI_toInt (n := 10) (by omega)] at c_18
    by_cases hkn : k < σ 12 0
    ·
      have em : min k (σ 12 0) = k := by omega
      have em1 : min (k + 1) (σ 12 0) = k + 1 := by omega
      rw [em] at hl hbl
      refine lv_aload_n hx hb dX4_likest_21 rfl (lv_at hl 0 rfl) ?_
      refine x_get hx hb hts hin4 hown hW 0 0 (xg_x G0 D xa σ τ) rfl 6 (by decide) (hts (.fieldLink RX4 31 "Restitutory" "things" "[LRestitutory$Thing;") (by decide +kernel)) rfl (v := .ref (xa 4 0)) (rfl) dX4_likest_22 ?_
      refine lv_iload hx hb dX4_likest_25 (lv_at hl 5 rfl) ?_
      refine x_ald2 hx hb hW 4 0 2 rfl (xg_ta G0 D xa σ τ) (k) (by omega) (by omega) (v := .ref (xa 13 k)) (by show va_rf (if _ then _ else _) = _; rw [if_pos hkn]; rfl) dX4_likest_27 ?_
      refine lv_astore (lv' := [(6, .ref (xa 13 k)), (0, .ref (xa 0 0)), (1, .int (nI (ti))), (2, .ref (xa 13 ti)), (3, .int (oi (lst σ ti k))), (4, .int (bl)), (5, .int (nI (k)))]) hx hb dX4_likest_28 hl (by decide) rfl (fun ls hl => ?_)
      have hl : lv_has ls 8 [(0, .ref (xa 0 0)), (1, .int (nI (ti))), (2, .ref (xa 13 ti)), (3, .int (oi (lst σ ti k))), (4, .int (bl)), (5, .int (nI (k))), (6, .ref (xa 13 k))] := lv_sub hl [1, 2, 3, 4, 5, 6, 0] rfl
      refine lv_aload hx hb dX4_likest_30 (lv_at hl 6 rfl) ?_
      refine lv_ifnull hx hb dX4_likest_32 ?_
      refine lv_aload hx hb dX4_likest_35 (lv_at hl 6 rfl) ?_
      refine lv_aload_n hx hb dX4_likest_37 rfl (lv_at hl 2 rfl) ?_
      refine lv_acmp_ne (rx := some (xa 13 k)) (ry := some (xa 13 ti)) (tgt := 44) hx hb dX4_likest_38 (by decide) (fun c_38 => ?_) (fun c_38 => ?_)
      · -- acmpne taken
        have c_38n : ¬ k = ti := fun h_ => c_38 (by rw [h_])
        refine lv_aload_n hx hb dX4_likest_44 rfl (lv_at hl 2 rfl) ?_
        refine lv_aload hx hb dX4_likest_45 (lv_at hl 6 rfl) ?_
        refine xv_i (k := 13) (i := ti) (As := [.ref (xa 13 k)]) (rest := []) ⟨hx, hb, hml, hown, hts⟩ (c_X3_likenessTo l D sa xa G0 σ τ hg ti k hti hkn) (cwV 1 hts gX4_likest_X3_likenessTo rfl rfl rfl (by decide +kernel) ⟨Nat.le_of_ble_eq_true rfl, Nat.le_of_ble_eq_true rfl⟩) hW (xg_t G0 D xa σ τ (i := ti) (by omega)) rfl rfl rfl rfl hl.1 (Nat.le_of_ble_eq_true rfl) dX4_likest_47 ⟨Nat.le_of_ble_eq_true rfl, Nat.le_of_ble_eq_true rfl⟩ (fun r_47 xa1 G1 H locs hp hW => ?_)
        obtain ⟨hu, hr_47⟩ := hp
        cases hu
        refine lv_istore (lv' := [(7, .int (r_47)), (0, .ref (xa 0 0)), (1, .int (nI (ti))), (2, .ref (xa 13 ti)), (3, .int (oi (lst σ ti k))), (4, .int (bl)), (5, .int (nI (k))), (6, .ref (xa 13 k))]) hx hb dX4_likest_50 hl (by decide) rfl (fun ls hl => ?_)
        have hl : lv_has ls 8 [(0, .ref (xa 0 0)), (1, .int (nI (ti))), (2, .ref (xa 13 ti)), (3, .int (oi (lst σ ti k))), (4, .int (bl)), (5, .int (nI (k))), (6, .ref (xa 13 k)), (7, .int (r_47))] := lv_sub hl [1, 2, 3, 4, 5, 6, 7, 0] rfl
        refine lv_iload_n hx hb dX4_likest_52 rfl (lv_at hl 3 rfl) ?_
        refine lv_iconst (v := -1) hx hb dX4_likest_53 (by decide +kernel) ?_
        refine lv_icmp_eq (tgt := 64) hx hb dX4_likest_54 (by decide) (fun c_54 => ?_) (fun c_54 => ?_)
        · -- eq taken
          have c_54m := (oi_m1 (fun i h_ => by have := lst_lt h_; omega)).mp c_54
          refine lv_iload hx hb dX4_likest_64 (lv_at hl 5 rfl) ?_
          refine lv_istore_n (lv' := [(3, .int (nI (k))), (0, .ref (xa 0 0)), (1, .int (nI (ti))), (2, .ref (xa 13 ti)), (4, .int (bl)), (5, .int (nI (k))), (6, .ref (xa 13 k)), (7, .int (r_47))]) hx hb dX4_likest_66 rfl hl (by decide) rfl (fun ls hl => ?_)
          have hl : lv_has ls 8 [(0, .ref (xa 0 0)), (1, .int (nI (ti))), (2, .ref (xa 13 ti)), (3, .int (nI (k))), (4, .int (bl)), (5, .int (nI (k))), (6, .ref (xa 13 k)), (7, .int (r_47))] := lv_sub hl [1, 2, 3, 0, 4, 5, 6, 7] rfl
          refine lv_iload hx hb dX4_likest_67 (lv_at hl 7 rfl) ?_
          refine lv_istore (lv' := [(4, .int (r_47)), (0, .ref (xa 0 0)), (1, .int (nI (ti))), (2, .ref (xa 13 ti)), (3, .int (nI (k))), (5, .int (nI (k))), (6, .ref (xa 13 k)), (7, .int (r_47))]) hx hb dX4_likest_69 hl (by decide) rfl (fun ls hl => ?_)
          have hl : lv_has ls 8 [(0, .ref (xa 0 0)), (1, .int (nI (ti))), (2, .ref (xa 13 ti)), (3, .int (nI (k))), (4, .int (r_47)), (5, .int (nI (k))), (6, .ref (xa 13 k)), (7, .int (r_47))] := lv_sub hl [1, 2, 3, 4, 0, 5, 6, 7] rfl
          refine lv_iinc (v := nI (k + 1)) (lv' := [(5, .int (nI (k + 1))), (0, .ref (xa 0 0)), (1, .int (nI (ti))), (2, .ref (xa 13 ti)), (3, .int (nI (k))), (4, .int (r_47)), (6, .ref (xa 13 k)), (7, .int (r_47))]) hx hb dX4_likest_71 hl (k := 5) rfl (x_inc k 1 rfl) (by decide) rfl (fun ls hl => ?_)
          have hl : lv_has ls 8 [(0, .ref (xa 0 0)), (1, .int (nI (ti))), (2, .ref (xa 13 ti)), (3, .int (nI (k))), (4, .int (r_47)), (5, .int (nI (k + 1))), (6, .ref (xa 13 k)), (7, .int (r_47))] := lv_sub hl [1, 2, 3, 4, 5, 0, 6, 7] rfl
          refine lv_goto (tgt := 14) hx hb dX4_likest_74 (by decide) ?_
          have e3 : nI (k) = oi (lst σ ti (min (k + 1) (σ 12 0))) := by rw [em1, lst_a c_38n c_54m]; rfl
          rw [e3] at hl
          exact ih14 (10 - (k + 1)) (k + 1, r_47) _ _ _ (by omega) ⟨rfl, hW, lv_sub hl [0, 1, 2, 3, 4, 5] rfl, by rw [em1, lst_a c_38n c_54m]; exact fun b h_ => Option.some.inj h_ ▸ hr_47, by (try dsimp only); omega⟩
        · -- eq not
          have c_54m : ∃ b, lst σ ti k = some b := by
            cases hq : lst σ ti k with
            | none => exact absurd (congrArg oi hq) c_54
            | some b => exact ⟨b, rfl⟩
          refine lv_iload hx hb dX4_likest_57 (lv_at hl 7 rfl) ?_
          refine lv_iload hx hb dX4_likest_59 (lv_at hl 4 rfl) ?_
          refine lv_icmp_le (tgt := 71) hx hb dX4_likest_61 (by decide) (fun c_61 => ?_) (fun c_61 => ?_)
          · -- le taken
            have c_61 := Int32.le_iff_toInt_le.mp c_61
            have c_61m : ∃ b, lst σ ti k = some b ∧ ¬ lk σ ti b < lk σ ti k := by
              obtain ⟨b, hb1⟩ := c_54m
              exact ⟨b, hb1, by rw [← hbl b hb1, ← hr_47]; omega⟩
            refine lv_iinc (v := nI (k + 1)) (lv' := [(5, .int (nI (k + 1))), (0, .ref (xa 0 0)), (1, .int (nI (ti))), (2, .ref (xa 13 ti)), (3, .int (oi (lst σ ti k))), (4, .int (bl)), (6, .ref (xa 13 k)), (7, .int (r_47))]) hx hb dX4_likest_71 hl (k := 5) rfl (x_inc k 1 rfl) (by decide) rfl (fun ls hl => ?_)
            have hl : lv_has ls 8 [(0, .ref (xa 0 0)), (1, .int (nI (ti))), (2, .ref (xa 13 ti)), (3, .int (oi (lst σ ti k))), (4, .int (bl)), (5, .int (nI (k + 1))), (6, .ref (xa 13 k)), (7, .int (r_47))] := lv_sub hl [1, 2, 3, 4, 5, 0, 6, 7] rfl
            refine lv_goto (tgt := 14) hx hb dX4_likest_74 (by decide) ?_
            have e3 : oi (lst σ ti k) = oi (lst σ ti (min (k + 1) (σ 12 0))) := by rw [em1, lst_b c_61m]
            rw [e3] at hl
            exact ih14 (10 - (k + 1)) (k + 1, bl) _ _ _ (by omega) ⟨rfl, hW, lv_sub hl [0, 1, 2, 3, 4, 5] rfl, by rw [em1, lst_b c_61m]; exact hbl, by (try dsimp only); omega⟩
          · -- le not
            have c_61 : ¬ ((r_47).toInt ≤ (bl).toInt) := fun h => c_61 (Int32.le_iff_toInt_le.mpr h)
            have c_61m : ∃ b, lst σ ti k = some b ∧  lk σ ti b < lk σ ti k := by
              obtain ⟨b, hb1⟩ := c_54m
              exact ⟨b, hb1, by rw [← hbl b hb1, ← hr_47]; omega⟩
            refine lv_iload hx hb dX4_likest_64 (lv_at hl 5 rfl) ?_
            refine lv_istore_n (lv' := [(3, .int (nI (k))), (0, .ref (xa 0 0)), (1, .int (nI (ti))), (2, .ref (xa 13 ti)), (4, .int (bl)), (5, .int (nI (k))), (6, .ref (xa 13 k)), (7, .int (r_47))]) hx hb dX4_likest_66 rfl hl (by decide) rfl (fun ls hl => ?_)
            have hl : lv_has ls 8 [(0, .ref (xa 0 0)), (1, .int (nI (ti))), (2, .ref (xa 13 ti)), (3, .int (nI (k))), (4, .int (bl)), (5, .int (nI (k))), (6, .ref (xa 13 k)), (7, .int (r_47))] := lv_sub hl [1, 2, 3, 0, 4, 5, 6, 7] rfl
            refine lv_iload hx hb dX4_likest_67 (lv_at hl 7 rfl) ?_
            refine lv_istore (lv' := [(4, .int (r_47)), (0, .ref (xa 0 0)), (1, .int (nI (ti))), (2, .ref (xa 13 ti)), (3, .int (nI (k))), (5, .int (nI (k))), (6, .ref (xa 13 k)), (7, .int (r_47))]) hx hb dX4_likest_69 hl (by decide) rfl (fun ls hl => ?_)
            have hl : lv_has ls 8 [(0, .ref (xa 0 0)), (1, .int (nI (ti))), (2, .ref (xa 13 ti)), (3, .int (nI (k))), (4, .int (r_47)), (5, .int (nI (k))), (6, .ref (xa 13 k)), (7, .int (r_47))] := lv_sub hl [1, 2, 3, 4, 0, 5, 6, 7] rfl
            refine lv_iinc (v := nI (k + 1)) (lv' := [(5, .int (nI (k + 1))), (0, .ref (xa 0 0)), (1, .int (nI (ti))), (2, .ref (xa 13 ti)), (3, .int (nI (k))), (4, .int (r_47)), (6, .ref (xa 13 k)), (7, .int (r_47))]) hx hb dX4_likest_71 hl (k := 5) rfl (x_inc k 1 rfl) (by decide) rfl (fun ls hl => ?_)
            have hl : lv_has ls 8 [(0, .ref (xa 0 0)), (1, .int (nI (ti))), (2, .ref (xa 13 ti)), (3, .int (nI (k))), (4, .int (r_47)), (5, .int (nI (k + 1))), (6, .ref (xa 13 k)), (7, .int (r_47))] := lv_sub hl [1, 2, 3, 4, 5, 0, 6, 7] rfl
            refine lv_goto (tgt := 14) hx hb dX4_likest_74 (by decide) ?_
            have e3 : nI (k) = oi (lst σ ti (min (k + 1) (σ 12 0))) := by rw [em1, lst_c c_38n c_61m]; rfl
            rw [e3] at hl
            exact ih14 (10 - (k + 1)) (k + 1, r_47) _ _ _ (by omega) ⟨rfl, hW, lv_sub hl [0, 1, 2, 3, 4, 5] rfl, by rw [em1, lst_c c_38n c_61m]; exact fun b h_ => Option.some.inj h_ ▸ hr_47, by (try dsimp only); omega⟩
      · -- acmpne not
        have c_38e : k = ti := (hW.inj (xg_t G0 D xa σ τ hkn) (xg_t G0 D xa σ τ hti) (Option.some.inj c_38)).2
        refine lv_goto (tgt := 71) hx hb dX4_likest_41 (by decide) ?_
        refine lv_iinc (v := nI (k + 1)) (lv' := [(5, .int (nI (k + 1))), (0, .ref (xa 0 0)), (1, .int (nI (ti))), (2, .ref (xa 13 ti)), (3, .int (oi (lst σ ti k))), (4, .int (bl)), (6, .ref (xa 13 k))]) hx hb dX4_likest_71 hl (k := 5) rfl (x_inc k 1 rfl) (by decide) rfl (fun ls hl => ?_)
        have hl : lv_has ls 8 [(0, .ref (xa 0 0)), (1, .int (nI (ti))), (2, .ref (xa 13 ti)), (3, .int (oi (lst σ ti k))), (4, .int (bl)), (5, .int (nI (k + 1))), (6, .ref (xa 13 k))] := lv_sub hl [1, 2, 3, 4, 5, 0, 6] rfl
        refine lv_goto (tgt := 14) hx hb dX4_likest_74 (by decide) ?_
        have e3 : oi (lst σ ti k) = oi (lst σ ti (min (k + 1) (σ 12 0))) := by rw [em1, lst_self c_38e]
        rw [e3] at hl
        exact ih14 (10 - (k + 1)) (k + 1, bl) _ _ _ (by omega) ⟨rfl, hW, lv_sub hl [0, 1, 2, 3, 4, 5] rfl, by rw [em1, lst_self c_38e]; exact hbl, by (try dsimp only); omega⟩
    ·
      have em : min k (σ 12 0) = σ 12 0 := by omega
      have em1 : min (k + 1) (σ 12 0) = σ 12 0 := by omega
      rw [em] at hl hbl
      refine lv_aload_n hx hb dX4_likest_21 rfl (lv_at hl 0 rfl) ?_
      refine x_get hx hb hts hin4 hown hW 0 0 (xg_x G0 D xa σ τ) rfl 6 (by decide) (hts (.fieldLink RX4 31 "Restitutory" "things" "[LRestitutory$Thing;") (by decide +kernel)) rfl (v := .ref (xa 4 0)) (rfl) dX4_likest_22 ?_
      refine lv_iload hx hb dX4_likest_25 (lv_at hl 5 rfl) ?_
      refine x_ald2 hx hb hW 4 0 2 rfl (xg_ta G0 D xa σ τ) (k) (by omega) (by omega) (v := .null) (by show va_rf (if _ then _ else _) = _; rw [if_neg hkn]; rfl) dX4_likest_27 ?_
      refine lv_astoreN (lv' := [(6, .null), (0, .ref (xa 0 0)), (1, .int (nI (ti))), (2, .ref (xa 13 ti)), (3, .int (oi (lst σ ti (σ 12 0)))), (4, .int (bl)), (5, .int (nI (k)))]) hx hb dX4_likest_28 hl (by decide) rfl (fun ls hl => ?_)
      have hl : lv_has ls 8 [(0, .ref (xa 0 0)), (1, .int (nI (ti))), (2, .ref (xa 13 ti)), (3, .int (oi (lst σ ti (σ 12 0)))), (4, .int (bl)), (5, .int (nI (k))), (6, .null)] := lv_sub hl [1, 2, 3, 4, 5, 6, 0] rfl
      refine lv_aloadN hx hb dX4_likest_30 (lv_at hl 6 rfl) ?_
      refine lv_ifnullN (tgt := 71) hx hb dX4_likest_32 (by decide) ?_
      refine lv_iinc (v := nI (k + 1)) (lv' := [(5, .int (nI (k + 1))), (0, .ref (xa 0 0)), (1, .int (nI (ti))), (2, .ref (xa 13 ti)), (3, .int (oi (lst σ ti (σ 12 0)))), (4, .int (bl)), (6, .null)]) hx hb dX4_likest_71 hl (k := 5) rfl (x_inc k 1 rfl) (by decide) rfl (fun ls hl => ?_)
      have hl : lv_has ls 8 [(0, .ref (xa 0 0)), (1, .int (nI (ti))), (2, .ref (xa 13 ti)), (3, .int (oi (lst σ ti (σ 12 0)))), (4, .int (bl)), (5, .int (nI (k + 1))), (6, .null)] := lv_sub hl [1, 2, 3, 4, 5, 0, 6] rfl
      refine lv_goto (tgt := 14) hx hb dX4_likest_74 (by decide) ?_
      have e3 : oi (lst σ ti (σ 12 0)) = oi (lst σ ti (min (k + 1) (σ 12 0))) := by rw [em1]
      rw [e3] at hl
      exact ih14 (10 - (k + 1)) (k + 1, bl) _ _ _ (by omega) ⟨rfl, hW, lv_sub hl [0, 1, 2, 3, 4, 5] rfl, by rw [em1]; exact hbl, by (try dsimp only); omega⟩

set_option maxHeartbeats 4000000 in
set_option maxRecDepth 100000 in
theorem c_X4_stationAt (l : Launch) (hst0 : l.stackTraces = false) (D : xD) (sa : Nat → Nat) (xa : xA) (G0 : xG) (σ : Sg) (τ : Tg) (hg : Gd σ) (hL : LL σ τ) (t q : Int32) : xXi l yX4_stationAt wsX4_stationAt ({ frames := 16, cells := 2, slots := 12, locals := 500 } : Room) D sa xa (xGs G0 D xa σ τ) [.ref (xa 0 0), .int t, .int q] (fun r u => (gk (pT σ t ∧ 0 ≤ q.toInt) True True) 0 ∧ u = (xa, xGs G0 D xa σ τ) ∧ r = oi (if xn q < σ 11 (xn t) then some (ordr σ (xn t) (xn q)) else none)) (pxk (gk (pT σ t ∧ 0 ≤ q.toInt) True True) xIob xIob xIob) 2 12 := by
  have hB := hg.1
  have h5 := hg.2.1.1
  have h7 := hg.2.1.2.1
  have h12 := hg.2.1.2.2.1
  have hy0 := hg.2.1.2.2.2.1
  have hy1 := hg.2.1.2.2.2.2
  have hm := hg.hm
  have hs8 := hg.hs8
  intro sz
  refine vx_ofW (cc := cX4_stationAt) (maxL := 6) (ret := (some .int)) (by decide +kernel) rfl ?_
  intro p e s m args below meth c s₁ B hml hout hv
  obtain ⟨rfl, hsz, hv2⟩ := hv
  subst hsz
  have hx := B.exec
  have hb := B.bytes
  have hr := B.returns
  have hts := atoms_spec (ws := wsX4_stationAt) B.pre
  have hown : s.vm.findClass RX4 = some m.cls := findClass_of_methodNamed B.named
  have hlocks := B.notSynchronized
  have hin3 : ∀ w ∈ wsX30, w ∈ wsX4_stationAt := by decide +kernel
  have hin2 : ∀ w ∈ wsX20, w ∈ wsX4_stationAt := by decide +kernel
  have hin4 : ∀ w ∈ wsX40, w ∈ wsX4_stationAt := by decide +kernel
  have hW := xW.start (s := s) ⟨rfl, hv2⟩
  clear hv2
  generalize xAw xa (xGs G0 D xa σ τ) s.heap.size = A at hW ⊢
  have hl := lv_entry ([.ref (xa 0 0), .int (t), .int (q)]) (n := 6) (Nat.le_of_ble_eq_true rfl)
  rw [lg_entry_eq]
  generalize (lg_sl ([.ref (xa 0 0), .int (t), .int (q)]) ++ List.replicate (6 - (lg_sl ([.ref (xa 0 0), .int (t), .int (q)])).length) Slot.unset).toArray = ls at hl ⊢
  have hl : lv_has ls 6 [(0, .ref (xa 0 0)), (1, .int (t)), (2, .int (q))] := hl
  refine lv_aload_n hx hb dX4_stationAt_0 rfl (lv_at hl 0 rfl) ?_
  refine lv_iload_n hx hb dX4_stationAt_1 rfl (lv_at hl 1 rfl) ?_
  refine yv_r (k := 0) (i := 0) (As := [.int (t)]) (rest := []) ⟨hx, hb, hml, hown, hts⟩ (c_X4_thingNumbered l hst0 D sa xa G0 σ τ hg hL t) (cwV 1 hts gX4_stationAt_X4_thingNumbered rfl rfl rfl (by decide +kernel) ⟨Nat.le_of_ble_eq_true rfl, Nat.le_of_ble_eq_true rfl⟩) ⟨hout, hlocks⟩ (fun E h => px1 (fun hh => h.2 hh.1) h.1) ⟨Nat.le_of_ble_eq_true rfl, Nat.le_of_ble_eq_true rfl⟩ hW (xg_x G0 D xa σ τ) rfl rfl rfl rfl hl.1 (Nat.le_of_ble_eq_true rfl) dX4_stationAt_2 ⟨Nat.le_of_ble_eq_true rfl, Nat.le_of_ble_eq_true rfl⟩ (fun r_2 xa1 G1 H locs hp hW => ?_)
  obtain ⟨ti, hti, rfl, ha_2, hu⟩ := hp
  cases hu
  subst ha_2
  refine lv_astore_n (lv' := [(3, .ref (xa 13 ti)), (0, .ref (xa 0 0)), (1, .int (nI (ti))), (2, .int (q))]) hx hb dX4_stationAt_5 rfl hl (by decide) rfl (fun ls hl => ?_)
  have hl : lv_has ls 6 [(0, .ref (xa 0 0)), (1, .int (nI (ti))), (2, .int (q)), (3, .ref (xa 13 ti))] := lv_sub hl [1, 2, 3, 0] rfl
  refine lv_iload_n hx hb dX4_stationAt_6 rfl (lv_at hl 2 rfl) ?_
  refine lv_if_ge (tgt := 20) hx hb dX4_stationAt_7 (by decide) (fun c_7 => ?_) (fun c_7 => ?_)
  · -- ge taken
    have c_7 := Int32.le_iff_toInt_le.mp c_7
    rw [x_t0] at c_7
    have hli := hL ti hti
    have h8 := hs8 ti
    have hlt31 := Int32.toInt_lt q
    have hτ1 : τ 1 ti = (if 0 < σ 11 ti then some (8 * ti + ordr σ ti 0) else none) := by
      rw [hli.1]
      by_cases h0 : σ 11 ti = 0
      · rw [if_pos h0, if_neg (by omega)]
      · rw [if_neg h0, if_pos (by omega)]
    obtain ⟨qi, hqi, rfl⟩ := x_nat (n := 2147483648) (x := q) (by omega) (by omega)
    refine lv_aload_n hx hb dX4_stationAt_20 rfl (lv_at hl 3 rfl) ?_
    refine x_get hx hb hts hin3 hown hW 13 ti (xg_t G0 D xa σ τ (i := ti) (by omega)) rfl 4 (by decide) (hts (.fieldLink RX4 162 "Restitutory$Thing" "first" "LRestitutory$Station;") (by decide +kernel)) rfl (v := va_rf ((if 0 < σ 11 ti then some (8 * ti + ordr σ ti (0)) else none).map (xa 15))) (by show some (va_rf ((τ 1 _).map (xa 15))) = _; rw [hτ1]) dX4_stationAt_21 ?_
    refine x_astore (lv' := [(4, va_rf ((if 0 < σ 11 ti then some (8 * ti + ordr σ ti (0)) else none).map (xa 15))), (0, .ref (xa 0 0)), (1, .int (nI (ti))), (2, .int (nI (qi))), (3, .ref (xa 13 ti))]) hx hb dX4_stationAt_24 hl (by decide) rfl (fun ls hl => ?_)
    have hl : lv_has ls 6 [(0, .ref (xa 0 0)), (1, .int (nI (ti))), (2, .int (nI (qi))), (3, .ref (xa 13 ti)), (4, va_rf ((if 0 < σ 11 ti then some (8 * ti + ordr σ ti (0)) else none).map (xa 15)))] := lv_sub hl [1, 2, 3, 4, 0] rfl
    refine lv_iconst (v := nI (0)) hx hb dX4_stationAt_26 (by decide +kernel) ?_
    refine lv_istore (lv' := [(5, .int (nI (0))), (0, .ref (xa 0 0)), (1, .int (nI (ti))), (2, .int (nI (qi))), (3, .ref (xa 13 ti)), (4, va_rf ((if 0 < σ 11 ti then some (8 * ti + ordr σ ti (0)) else none).map (xa 15)))]) hx hb dX4_stationAt_27 hl (by decide) (by simp [List.filter, va_rf_cat]) (fun ls hl => ?_)
    have hl : lv_has ls 6 [(0, .ref (xa 0 0)), (1, .int (nI (ti))), (2, .int (nI (qi))), (3, .ref (xa 13 ti)), (4, va_rf ((if 0 < σ 11 ti then some (8 * ti + ordr σ ti (0)) else none).map (xa 15))), (5, .int (nI (0)))] := lv_sub hl [1, 2, 3, 4, 5, 0] rfl
    refine x_loop (X := Nat) (I := fun n xv H locs ls => n = qi - xv ∧ xW D sa A s xa (xGs G0 D xa σ τ) H locs ∧ lv_has ls 6 [(0, .ref (xa 0 0)), (1, .int (nI (ti))), (2, .int (nI (qi))), (3, .ref (xa 13 ti)), (4, va_rf ((if xv < σ 11 ti then some (8 * ti + ordr σ ti (xv)) else none).map (xa 15))), (5, .int (nI (xv)))] ∧ (xv ≤ qi) ∧ (xv ≤ σ 11 ti)) (hd := 29) ?_ (n := _) (x := (0)) ⟨rfl, hW, hl, by (try dsimp only); omega, by (try dsimp only); omega⟩
    rintro n k H locs ls ⟨hn, hW, hl, hk, hk2⟩ ih29
    try dsimp only at hn hW hl hk hk2
    refine lv_iload hx hb dX4_stationAt_29 (lv_at hl 5 rfl) ?_
    by_cases hkn : k < σ 11 ti
    ·
      rw [if_pos hkn] at hl
      have hl : lv_has ls 6 [(0, .ref (xa 0 0)), (1, .int (nI (ti))), (2, .int (nI (qi))), (3, .ref (xa 13 ti)), (4, .ref (xa 15 (8 * ti + ordr σ ti k))), (5, .int (nI (k)))] := hl
      have hτ4 := (hli.2.2 k hkn).2
      refine lv_iload_n hx hb dX4_stationAt_31 rfl (lv_at hl 2 rfl) ?_
      refine lv_icmp_ge (tgt := 53) hx hb dX4_stationAt_32 (by decide) (fun c_32 => ?_) (fun c_32 => ?_)
      · -- ge taken
        have c_32 := Int32.le_iff_toInt_le.mp c_32
        rw [nI_toInt (n := k) (by omega)] at c_32
        rw [nI_toInt (n := qi) (by omega)] at c_32
        refine lv_aload hx hb dX4_stationAt_53 (lv_at hl 4 rfl) ?_
        refine lv_ifnonnull (tgt := 62) hx hb dX4_stationAt_55 (by decide) ?_
        refine lv_aload hx hb dX4_stationAt_62 (lv_at hl 4 rfl) ?_
        refine x_get hx hb hts hin2 hown hW 15 (8 * ti + ordr σ ti k) (xg_s G0 D xa σ τ (i := 8 * ti + ordr σ ti k) (lvS_of (by omega) (ordr_lt (by omega)) (hs8 _))) rfl 0 (by decide) (hts (.fieldLink RX4 169 "Restitutory$Station" "number" "I") (by decide +kernel)) rfl (v := .int (nI ((8 * ti + ordr σ ti k) % 8))) (rfl) dX4_stationAt_64 ?_
        exact ye_i hx hb hr rfl hlocks hW ⟨gk.mk0 ⟨(pT_of hti h12), by rw [nI_toInt (by omega)]; omega⟩ trivial trivial, rfl, by rw [xn_nI (by omega), xn_nI (by omega), show qi = k by omega, if_pos hkn]; exact congrArg nI (J_mod _ _ (by have := ordr_lt hkn; omega))⟩ (Nat.le_of_ble_eq_true rfl) (Nat.le_of_ble_eq_true rfl) dX4_stationAt_67
      · -- ge not
        have c_32 : ¬ ((nI (qi)).toInt ≤ (nI (k)).toInt) := fun h => c_32 (Int32.le_iff_toInt_le.mpr h)
        rw [nI_toInt (n := k) (by omega)] at c_32
        rw [nI_toInt (n := qi) (by omega)] at c_32
        refine lv_aload hx hb dX4_stationAt_35 (lv_at hl 4 rfl) ?_
        refine lv_ifnull hx hb dX4_stationAt_37 ?_
        refine lv_aload hx hb dX4_stationAt_40 (lv_at hl 4 rfl) ?_
        refine x_get hx hb hts hin2 hown hW 15 (8 * ti + ordr σ ti k) (xg_s G0 D xa σ τ (i := 8 * ti + ordr σ ti k) (lvS_of (by omega) (ordr_lt (by omega)) (hs8 _))) rfl 8 (by decide) (hts (.fieldLink RX4 166 "Restitutory$Station" "next" "LRestitutory$Station;") (by decide +kernel)) rfl (v := va_rf ((if k + 1 < σ 11 ti then some (8 * ti + ordr σ ti (k + 1)) else none).map (xa 15))) (by show some (va_rf ((τ 4 _).map (xa 15))) = _; rw [hτ4]) dX4_stationAt_42 ?_
        refine x_astore (lv' := [(4, va_rf ((if k + 1 < σ 11 ti then some (8 * ti + ordr σ ti (k + 1)) else none).map (xa 15))), (0, .ref (xa 0 0)), (1, .int (nI (ti))), (2, .int (nI (qi))), (3, .ref (xa 13 ti)), (5, .int (nI (k)))]) hx hb dX4_stationAt_45 hl (by decide) rfl (fun ls hl => ?_)
        have hl : lv_has ls 6 [(0, .ref (xa 0 0)), (1, .int (nI (ti))), (2, .int (nI (qi))), (3, .ref (xa 13 ti)), (4, va_rf ((if k + 1 < σ 11 ti then some (8 * ti + ordr σ ti (k + 1)) else none).map (xa 15))), (5, .int (nI (k)))] := lv_sub hl [1, 2, 3, 4, 0, 5] rfl
        refine lv_iinc (v := nI (k + 1)) (lv' := [(5, .int (nI (k + 1))), (0, .ref (xa 0 0)), (1, .int (nI (ti))), (2, .int (nI (qi))), (3, .ref (xa 13 ti)), (4, va_rf ((if k + 1 < σ 11 ti then some (8 * ti + ordr σ ti (k + 1)) else none).map (xa 15)))]) hx hb dX4_stationAt_47 hl (k := 5) rfl (x_inc k 1 rfl) (by decide) (by simp [List.filter, va_rf_cat]) (fun ls hl => ?_)
        have hl : lv_has ls 6 [(0, .ref (xa 0 0)), (1, .int (nI (ti))), (2, .int (nI (qi))), (3, .ref (xa 13 ti)), (4, va_rf ((if k + 1 < σ 11 ti then some (8 * ti + ordr σ ti (k + 1)) else none).map (xa 15))), (5, .int (nI (k + 1)))] := lv_sub hl [1, 2, 3, 4, 5, 0] rfl
        refine lv_goto (tgt := 29) hx hb dX4_stationAt_50 (by decide) ?_
        exact ih29 (qi - (k + 1)) (k + 1) _ _ _ (by omega) ⟨rfl, hW, hl, by (try dsimp only); omega, by (try dsimp only); omega⟩
    ·
      rw [if_neg hkn] at hl
      have hl : lv_has ls 6 [(0, .ref (xa 0 0)), (1, .int (nI (ti))), (2, .int (nI (qi))), (3, .ref (xa 13 ti)), (4, .null), (5, .int (nI (k)))] := hl
      refine lv_iload_n hx hb dX4_stationAt_31 rfl (lv_at hl 2 rfl) ?_
      refine lv_icmp_ge (tgt := 53) hx hb dX4_stationAt_32 (by decide) (fun c_32 => ?_) (fun c_32 => ?_)
      · -- ge taken
        have c_32 := Int32.le_iff_toInt_le.mp c_32
        rw [nI_toInt (n := k) (by omega)] at c_32
        rw [nI_toInt (n := qi) (by omega)] at c_32
        refine lv_aloadN hx hb dX4_stationAt_53 (lv_at hl 4 rfl) ?_
        refine lv_ifnonnullN hx hb dX4_stationAt_55 ?_
        refine lv_iconst (v := -1) hx hb dX4_stationAt_58 (by decide +kernel) ?_
        refine lv_goto (tgt := 67) hx hb dX4_stationAt_59 (by decide) ?_
        exact ye_i hx hb hr rfl hlocks hW ⟨gk.mk0 ⟨(pT_of hti h12), by rw [nI_toInt (by omega)]; omega⟩ trivial trivial, rfl, by rw [xn_nI (by omega), xn_nI (by omega), if_neg (by omega)]; rfl⟩ (Nat.le_of_ble_eq_true rfl) (Nat.le_of_ble_eq_true rfl) dX4_stationAt_67
      · -- ge not
        have c_32 : ¬ ((nI (qi)).toInt ≤ (nI (k)).toInt) := fun h => c_32 (Int32.le_iff_toInt_le.mpr h)
        rw [nI_toInt (n := k) (by omega)] at c_32
        rw [nI_toInt (n := qi) (by omega)] at c_32
        refine lv_aloadN hx hb dX4_stationAt_35 (lv_at hl 4 rfl) ?_
        refine lv_ifnullN (tgt := 53) hx hb dX4_stationAt_37 (by decide) ?_
        refine lv_aloadN hx hb dX4_stationAt_53 (lv_at hl 4 rfl) ?_
        refine lv_ifnonnullN hx hb dX4_stationAt_55 ?_
        refine lv_iconst (v := -1) hx hb dX4_stationAt_58 (by decide +kernel) ?_
        refine lv_goto (tgt := 67) hx hb dX4_stationAt_59 (by decide) ?_
        exact ye_i hx hb hr rfl hlocks hW ⟨gk.mk0 ⟨(pT_of hti h12), by rw [nI_toInt (by omega)]; omega⟩ trivial trivial, rfl, by rw [xn_nI (by omega), xn_nI (by omega), if_neg (by omega)]; rfl⟩ (Nat.le_of_ble_eq_true rfl) (Nat.le_of_ble_eq_true rfl) dX4_stationAt_67
  · -- ge not
    have c_7 : ¬ (((0 : Int32)).toInt ≤ (q).toInt) := fun h => c_7 (Int32.le_iff_toInt_le.mpr h)
    rw [x_t0] at c_7
    exact y_throw (cls := xIob) (text := "there is no place below 0") hx hb hst0 hown ce_iob (hts (.classLink RX4 157 "java/lang/IndexOutOfBoundsException") (by decide +kernel)) (hts (.initialized "java/lang/IndexOutOfBoundsException") (by decide +kernel)) (fun w h => hts w (List.mem_cons_of_mem _ (List.mem_append_right _ h))) (by decide +kernel) hW (hl.1.trans hml.symm) dX4_stationAt_10 dX4_stationAt_13 dX4_stationAt_14 dX4_stationAt_16 dX4_stationAt_19 ⟨hout, hlocks⟩ (Nat.le_of_ble_eq_true rfl) (Nat.le_of_ble_eq_true rfl) ⟨Nat.le_of_ble_eq_true rfl, Nat.le_of_ble_eq_true rfl⟩ (px1 (fun hh => by have h3 := hh.2; omega) rfl) ⟨Nat.le_of_ble_eq_true rfl, Nat.le_of_ble_eq_true rfl⟩

set_option maxHeartbeats 4000000 in
set_option maxRecDepth 100000 in
theorem c_X4_asks (l : Launch) (hst0 : l.stackTraces = false) (D : xD) (sa : Nat → Nat) (xa : xA) (G0 : xG) (σ : Sg) (τ : Tg) (hg : Gd σ) (hL : LL σ τ) (x : Int32) : xXi l yX4_asks wsX4_asks ({ frames := 28, cells := 1, slots := 6, locals := 1100 } : Room) D sa xa (xGs G0 D xa σ τ) [.ref (xa 0 0), .int x] (fun r u => (gk (pP σ x) True True) 0 ∧ u = (xa, xGs G0 D xa σ τ) ∧ ∃ n, r = nI n ∧ cnt σ (xn x) (σ 12 0) n) (pxk (gk (pP σ x) True True) xIob xIob xIob) 1 6 := by
  have hB := hg.1
  have h5 := hg.2.1.1
  have h7 := hg.2.1.2.1
  have h12 := hg.2.1.2.2.1
  have hy0 := hg.2.1.2.2.2.1
  have hy1 := hg.2.1.2.2.2.2
  have hm := hg.hm
  have hs8 := hg.hs8
  intro sz
  refine vx_ofW (cc := cX4_asks) (maxL := 8) (ret := (some .int)) (by decide +kernel) rfl ?_
  intro p e s m args below meth c s₁ B hml hout hv
  obtain ⟨rfl, hsz, hv2⟩ := hv
  subst hsz
  have hx := B.exec
  have hb := B.bytes
  have hr := B.returns
  have hts := atoms_spec (ws := wsX4_asks) B.pre
  have hown : s.vm.findClass RX4 = some m.cls := findClass_of_methodNamed B.named
  have hlocks := B.notSynchronized
  have hin4 : ∀ w ∈ wsX40, w ∈ wsX4_asks := by decide +kernel
  have hin3 : ∀ w ∈ wsX30, w ∈ wsX4_asks := by decide +kernel
  have hin2 : ∀ w ∈ wsX20, w ∈ wsX4_asks := by decide +kernel
  have hin1 : ∀ w ∈ wsX10, w ∈ wsX4_asks := by decide +kernel
  have hin0 : ∀ w ∈ wsX00, w ∈ wsX4_asks := by decide +kernel
  have hW := xW.start (s := s) ⟨rfl, hv2⟩
  clear hv2
  generalize xAw xa (xGs G0 D xa σ τ) s.heap.size = A at hW ⊢
  have hl := lv_entry ([.ref (xa 0 0), .int (x)]) (n := 8) (Nat.le_of_ble_eq_true rfl)
  rw [lg_entry_eq]
  generalize (lg_sl ([.ref (xa 0 0), .int (x)]) ++ List.replicate (8 - (lg_sl ([.ref (xa 0 0), .int (x)])).length) Slot.unset).toArray = ls at hl ⊢
  have hl : lv_has ls 8 [(0, .ref (xa 0 0)), (1, .int (x))] := hl
  refine lv_aload_n hx hb dX4_asks_0 rfl (lv_at hl 0 rfl) ?_
  refine lv_iload_n hx hb dX4_asks_1 rfl (lv_at hl 1 rfl) ?_
  refine yv_r (k := 0) (i := 0) (As := [.int (x)]) (rest := []) ⟨hx, hb, hml, hown, hts⟩ (c_X4_personNumbered l hst0 D sa xa G0 σ τ hg hL x) (cwV 1 hts gX4_asks_X4_personNumbered rfl rfl rfl (by decide +kernel) ⟨Nat.le_of_ble_eq_true rfl, Nat.le_of_ble_eq_true rfl⟩) ⟨hout, hlocks⟩ (fun E h => px1 h.2 h.1) ⟨Nat.le_of_ble_eq_true rfl, Nat.le_of_ble_eq_true rfl⟩ hW (xg_x G0 D xa σ τ) rfl rfl rfl rfl hl.1 (Nat.le_of_ble_eq_true rfl) dX4_asks_2 ⟨Nat.le_of_ble_eq_true rfl, Nat.le_of_ble_eq_true rfl⟩ (fun r_2 xa1 G1 H locs hp hW => ?_)
  obtain ⟨xi, hxi, rfl, ha_2, hu⟩ := hp
  cases hu
  subst ha_2
  refine lv_astore_n (lv' := [(2, .ref (xa 10 xi)), (0, .ref (xa 0 0)), (1, .int (nI (xi)))]) hx hb dX4_asks_5 rfl hl (by decide) rfl (fun ls hl => ?_)
  have hl : lv_has ls 8 [(0, .ref (xa 0 0)), (1, .int (nI (xi))), (2, .ref (xa 10 xi))] := lv_sub hl [1, 2, 0] rfl
  refine lv_iconst (v := nI (0)) hx hb dX4_asks_6 (by decide +kernel) ?_
  refine lv_istore_n (lv' := [(3, .int (nI (0))), (0, .ref (xa 0 0)), (1, .int (nI (xi))), (2, .ref (xa 10 xi))]) hx hb dX4_asks_7 rfl hl (by decide) rfl (fun ls hl => ?_)
  have hl : lv_has ls 8 [(0, .ref (xa 0 0)), (1, .int (nI (xi))), (2, .ref (xa 10 xi)), (3, .int (nI (0)))] := lv_sub hl [1, 2, 3, 0] rfl
  refine lv_aload_n hx hb dX4_asks_8 rfl (lv_at hl 0 rfl) ?_
  refine x_get hx hb hts hin4 hown hW 0 0 (xg_x G0 D xa σ τ) rfl 6 (by decide) (hts (.fieldLink RX4 31 "Restitutory" "things" "[LRestitutory$Thing;") (by decide +kernel)) rfl (v := .ref (xa 4 0)) (rfl) dX4_asks_9 ?_
  refine lv_astore (lv' := [(4, .ref (xa 4 0)), (0, .ref (xa 0 0)), (1, .int (nI (xi))), (2, .ref (xa 10 xi)), (3, .int (nI (0)))]) hx hb dX4_asks_12 hl (by decide) rfl (fun ls hl => ?_)
  have hl : lv_has ls 8 [(0, .ref (xa 0 0)), (1, .int (nI (xi))), (2, .ref (xa 10 xi)), (3, .int (nI (0))), (4, .ref (xa 4 0))] := lv_sub hl [1, 2, 3, 4, 0] rfl
  refine lv_aload hx hb dX4_asks_14 (lv_at hl 4 rfl) ?_
  refine x_len hx hb hW 4 0 2 rfl (xg_ta G0 D xa σ τ) (v := nI 10) rfl dX4_asks_16 ?_
  refine lv_istore (lv' := [(5, .int (nI (10))), (0, .ref (xa 0 0)), (1, .int (nI (xi))), (2, .ref (xa 10 xi)), (3, .int (nI (0))), (4, .ref (xa 4 0))]) hx hb dX4_asks_17 hl (by decide) rfl (fun ls hl => ?_)
  have hl : lv_has ls 8 [(0, .ref (xa 0 0)), (1, .int (nI (xi))), (2, .ref (xa 10 xi)), (3, .int (nI (0))), (4, .ref (xa 4 0)), (5, .int (nI (10)))] := lv_sub hl [1, 2, 3, 4, 5, 0] rfl
  refine lv_iconst (v := nI (0)) hx hb dX4_asks_19 (by decide +kernel) ?_
  refine lv_istore (lv' := [(6, .int (nI (0))), (0, .ref (xa 0 0)), (1, .int (nI (xi))), (2, .ref (xa 10 xi)), (3, .int (nI (0))), (4, .ref (xa 4 0)), (5, .int (nI (10)))]) hx hb dX4_asks_20 hl (by decide) rfl (fun ls hl => ?_)
  have hl : lv_has ls 8 [(0, .ref (xa 0 0)), (1, .int (nI (xi))), (2, .ref (xa 10 xi)), (3, .int (nI (0))), (4, .ref (xa 4 0)), (5, .int (nI (10))), (6, .int (nI (0)))] := lv_sub hl [1, 2, 3, 4, 5, 6, 0] rfl
  refine x_loop (X := Nat × Nat) (I := fun n xv H locs ls => n = 10 - xv.1 ∧ xW D sa A s xa (xGs G0 D xa σ τ) H locs ∧ lv_has ls 8 [(0, .ref (xa 0 0)), (1, .int (nI (xi))), (2, .ref (xa 10 xi)), (3, .int (nI (xv.2))), (4, .ref (xa 4 0)), (5, .int (nI (10))), (6, .int (nI (xv.1)))] ∧ (cnt σ xi (min xv.1 (σ 12 0)) xv.2) ∧ (xv.2 ≤ xv.1) ∧ (xv.1 ≤ 10)) (hd := 22) ?_ (n := _) (x := (0, 0)) ⟨rfl, hW, hl, by rw [Nat.zero_min]; rfl, by (try dsimp only); omega, by (try dsimp only); omega⟩
  rintro n ⟨k, c⟩ H locs ls ⟨hn, hW, hl, hc, hck, hk⟩ ih22
  try dsimp only at hn hW hl hc hck hk
  refine lv_iload hx hb dX4_asks_22 (lv_at hl 6 rfl) ?_
  refine lv_iload hx hb dX4_asks_24 (lv_at hl 5 rfl) ?_
  refine lv_icmp_ge (tgt := 73) hx hb dX4_asks_26 (by decide) (fun c_26 => ?_) (fun c_26 => ?_)
  · -- ge taken
    have c_26 := Int32.le_iff_toInt_le.mp c_26
    rw [nI_toInt (n := k) (by omega)] at c_26
    rw [nI_toInt (n := 10) (by omega)] at c_26
    refine lv_iload_n hx hb dX4_asks_73 rfl (lv_at hl 3 rfl) ?_
    exact ye_i hx hb hr rfl hlocks hW ⟨gk.mk0 (pP_of hxi h5) trivial trivial, rfl, c, rfl, by rw [xn_nI (by omega)]; rw [show min k (σ 12 0) = σ 12 0 by omega] at hc; exact hc⟩ (Nat.le_of_ble_eq_true rfl) (Nat.le_of_ble_eq_true rfl) dX4_asks_74
  · -- ge not
    have c_26 : ¬ ((nI (10)).toInt ≤ (nI (k)).toInt) := fun h => c_26 (Int32.le_iff_toInt_le.mpr h)
    rw [nI_toInt (n := k) (by omega)] at c_26
    rw [nI_toInt (n := 10) (by omega)] at c_26
    by_cases hkn : k < σ 12 0
    ·
      have em : min k (σ 12 0) = k := by omega
      have em1 : min (k + 1) (σ 12 0) = k + 1 := by omega
      rw [em] at hc
      refine lv_aload hx hb dX4_asks_29 (lv_at hl 4 rfl) ?_
      refine lv_iload hx hb dX4_asks_31 (lv_at hl 6 rfl) ?_
      refine x_ald2 hx hb hW 4 0 2 rfl (xg_ta G0 D xa σ τ) (k) (by omega) (by omega) (v := .ref (xa 13 k)) (by show va_rf (if _ then _ else _) = _; rw [if_pos hkn]; rfl) dX4_asks_33 ?_
      refine lv_astore (lv' := [(7, .ref (xa 13 k)), (0, .ref (xa 0 0)), (1, .int (nI (xi))), (2, .ref (xa 10 xi)), (3, .int (nI (c))), (4, .ref (xa 4 0)), (5, .int (nI (10))), (6, .int (nI (k)))]) hx hb dX4_asks_34 hl (by decide) rfl (fun ls hl => ?_)
      have hl : lv_has ls 8 [(0, .ref (xa 0 0)), (1, .int (nI (xi))), (2, .ref (xa 10 xi)), (3, .int (nI (c))), (4, .ref (xa 4 0)), (5, .int (nI (10))), (6, .int (nI (k))), (7, .ref (xa 13 k))] := lv_sub hl [1, 2, 3, 4, 5, 6, 7, 0] rfl
      refine lv_aload hx hb dX4_asks_36 (lv_at hl 7 rfl) ?_
      refine lv_ifnull hx hb dX4_asks_38 ?_
      refine lv_aload hx hb dX4_asks_41 (lv_at hl 7 rfl) ?_
      refine xv_q (k := 13) (i := k) (As := []) (rest := []) ⟨hx, hb, hml, hown, hts⟩ (c_X3_lastParty l D sa xa G0 σ τ hg hL k (by omega)) (cwV 0 hts gX4_asks_X3_lastParty rfl rfl rfl (by decide +kernel) ⟨Nat.le_of_ble_eq_true rfl, Nat.le_of_ble_eq_true rfl⟩) hW (xg_t G0 D xa σ τ (i := k) (by omega)) rfl rfl rfl rfl hl.1 (Nat.le_of_ble_eq_true rfl) dX4_asks_43 ⟨Nat.le_of_ble_eq_true rfl, Nat.le_of_ble_eq_true rfl⟩ (fun r_43 xa1 G1 H locs hp hW => ?_)
      obtain ⟨hu, hr_43⟩ := hp
      cases hu
      subst hr_43
      refine lv_aload_n hx hb dX4_asks_46 rfl (lv_at hl 2 rfl) ?_
      refine lv_acmp_eq (rx := (hold σ k).map (xa 10)) (ry := some (xa 10 xi)) (tgt := 67) hx hb dX4_asks_47 (by decide) (fun c_47 => ?_) (fun c_47 => ?_)
      · -- acmpeq taken
        have c_47m := (xmap_inj hW (fun a h => hold_lt hg hkn h) hxi).mp c_47
        refine lv_iinc (v := nI (k + 1)) (lv' := [(6, .int (nI (k + 1))), (0, .ref (xa 0 0)), (1, .int (nI (xi))), (2, .ref (xa 10 xi)), (3, .int (nI (c))), (4, .ref (xa 4 0)), (5, .int (nI (10))), (7, .ref (xa 13 k))]) hx hb dX4_asks_67 hl (k := 6) rfl (x_inc k 1 rfl) (by decide) rfl (fun ls hl => ?_)
        have hl : lv_has ls 8 [(0, .ref (xa 0 0)), (1, .int (nI (xi))), (2, .ref (xa 10 xi)), (3, .int (nI (c))), (4, .ref (xa 4 0)), (5, .int (nI (10))), (6, .int (nI (k + 1))), (7, .ref (xa 13 k))] := lv_sub hl [1, 2, 3, 4, 5, 6, 0, 7] rfl
        refine lv_goto (tgt := 22) hx hb dX4_asks_70 (by decide) ?_
        obtain ⟨r0, hr0⟩ := own_ex σ k
        have hnx : cnt σ xi (k + 1) c := ⟨c, r0, hc, hr0, Or.inr ⟨fun h_ => h_.2 c_47m, rfl⟩⟩
        exact ih22 (10 - (k + 1)) (k + 1, c) _ _ _ (by omega) ⟨rfl, hW, lv_sub hl [0, 1, 2, 3, 4, 5, 6] rfl, by rw [em1]; exact hnx, by (try dsimp only); omega, by (try dsimp only); omega⟩
      · -- acmpeq not
        have c_47m : ¬ hold σ k = some xi := fun h_ => c_47 ((xmap_inj hW (fun a h => hold_lt hg hkn h) hxi).mpr h_)
        refine lv_aload_n hx hb dX4_asks_50 rfl (lv_at hl 0 rfl) ?_
        refine lv_aload hx hb dX4_asks_51 (lv_at hl 7 rfl) ?_
        refine xv_q (k := 0) (i := 0) (As := [.ref (xa 13 k)]) (rest := []) ⟨hx, hb, hml, hown, hts⟩ (c_X4_titleFromFirst l D sa xa G0 σ τ hg hL k (hkn)) (cwV 1 hts gX4_asks_X4_titleFromFirst rfl rfl rfl (by decide +kernel) ⟨Nat.le_of_ble_eq_true rfl, Nat.le_of_ble_eq_true rfl⟩) hW (xg_x G0 D xa σ τ) rfl rfl rfl rfl hl.1 (Nat.le_of_ble_eq_true rfl) dX4_asks_53 ⟨Nat.le_of_ble_eq_true rfl, Nat.le_of_ble_eq_true rfl⟩ (fun r_53 xa1 G1 H locs hp hW => ?_)
        obtain ⟨hu, hr_53⟩ := hp
        cases hu
        obtain ⟨ot, ho1, ho2⟩ : ∃ ot : Option Nat, r_53 = ot.map (xa 10) ∧ ((σ 11 k = 0 ∧ ot = none) ∨ (0 < σ 11 k ∧ ∃ t, ttl σ k (ordr σ k) (σ 11 k) (σ 11 k - 1) t ∧ ot = some t)) := by
          rcases hr_53 with ⟨a1, a2⟩ | ⟨a1, t, a2, a3⟩
          · exact ⟨none, a2, Or.inl ⟨a1, rfl⟩⟩
          · exact ⟨some t, a3, Or.inr ⟨a1, t, a2, rfl⟩⟩
        subst ho1
        have hot : ∀ a, ot = some a → a < σ 5 0 := fun a h => by
          rcases ho2 with ⟨_, b⟩ | ⟨b1, t, b2, b3⟩
          · rw [b] at h; cases h
          · rw [b3] at h; cases h; exact ttl_lt hg (by omega) (by omega) b2
        have hown0 : own σ k (lifd σ 3 ot) := by
          rcases ho2 with ⟨a1, b⟩ | ⟨b1, t, b2, b3⟩
          · rw [b]; exact Or.inl ⟨a1, rfl⟩
          · rw [b3]; exact Or.inr ⟨b1, t, b2, rfl⟩
        refine lv_iconst (v := nI (3)) hx hb dX4_asks_56 (by decide +kernel) ?_
        refine xs_q (As := [va_rf (ot.map (xa 10)), .int (nI (3))]) (rest := []) ⟨hx, hb, hml, hown, hts⟩ (c_X4_livingFor_3 l D sa xa G0 σ τ hg ot hot) (va_cwS 2 hts gX4_asks_X4_livingFor rfl rfl rfl (by decide +kernel) ⟨Nat.le_of_ble_eq_true rfl, Nat.le_of_ble_eq_true rfl⟩) hW rfl rfl hl.1 (Nat.le_of_ble_eq_true rfl) dX4_asks_57 ⟨Nat.le_of_ble_eq_true rfl, Nat.le_of_ble_eq_true rfl⟩ (fun r_57 xa1 G1 H locs hp hW => ?_)
        obtain ⟨hu, hr_57⟩ := hp
        cases hu
        subst hr_57
        refine lv_aload_n hx hb dX4_asks_60 rfl (lv_at hl 2 rfl) ?_
        refine lv_acmp_ne (rx := (lifd σ 3 ot).map (xa 10)) (ry := some (xa 10 xi)) (tgt := 67) hx hb dX4_asks_61 (by decide) (fun c_61 => ?_) (fun c_61 => ?_)
        · -- acmpne taken
          have c_61m : ¬ lifd σ 3 ot = some xi := fun h_ => c_61 ((xmap_inj hW (lifd_lt hg hot) hxi).mpr h_)
          refine lv_iinc (v := nI (k + 1)) (lv' := [(6, .int (nI (k + 1))), (0, .ref (xa 0 0)), (1, .int (nI (xi))), (2, .ref (xa 10 xi)), (3, .int (nI (c))), (4, .ref (xa 4 0)), (5, .int (nI (10))), (7, .ref (xa 13 k))]) hx hb dX4_asks_67 hl (k := 6) rfl (x_inc k 1 rfl) (by decide) rfl (fun ls hl => ?_)
          have hl : lv_has ls 8 [(0, .ref (xa 0 0)), (1, .int (nI (xi))), (2, .ref (xa 10 xi)), (3, .int (nI (c))), (4, .ref (xa 4 0)), (5, .int (nI (10))), (6, .int (nI (k + 1))), (7, .ref (xa 13 k))] := lv_sub hl [1, 2, 3, 4, 5, 6, 0, 7] rfl
          refine lv_goto (tgt := 22) hx hb dX4_asks_70 (by decide) ?_
          have hnx : cnt σ xi (k + 1) c := ⟨c, _, hc, hown0, Or.inr ⟨fun h_ => c_61m h_.1, rfl⟩⟩
          exact ih22 (10 - (k + 1)) (k + 1, c) _ _ _ (by omega) ⟨rfl, hW, lv_sub hl [0, 1, 2, 3, 4, 5, 6] rfl, by rw [em1]; exact hnx, by (try dsimp only); omega, by (try dsimp only); omega⟩
        · -- acmpne not
          have c_61m := (xmap_inj hW (lifd_lt hg hot) hxi).mp c_61
          refine lv_iinc (v := nI (c + 1)) (lv' := [(3, .int (nI (c + 1))), (0, .ref (xa 0 0)), (1, .int (nI (xi))), (2, .ref (xa 10 xi)), (4, .ref (xa 4 0)), (5, .int (nI (10))), (6, .int (nI (k))), (7, .ref (xa 13 k))]) hx hb dX4_asks_64 hl (k := 3) rfl (x_inc c 1 rfl) (by decide) rfl (fun ls hl => ?_)
          have hl : lv_has ls 8 [(0, .ref (xa 0 0)), (1, .int (nI (xi))), (2, .ref (xa 10 xi)), (3, .int (nI (c + 1))), (4, .ref (xa 4 0)), (5, .int (nI (10))), (6, .int (nI (k))), (7, .ref (xa 13 k))] := lv_sub hl [1, 2, 3, 0, 4, 5, 6, 7] rfl
          refine lv_iinc (v := nI (k + 1)) (lv' := [(6, .int (nI (k + 1))), (0, .ref (xa 0 0)), (1, .int (nI (xi))), (2, .ref (xa 10 xi)), (3, .int (nI (c + 1))), (4, .ref (xa 4 0)), (5, .int (nI (10))), (7, .ref (xa 13 k))]) hx hb dX4_asks_67 hl (k := 6) rfl (x_inc k 1 rfl) (by decide) rfl (fun ls hl => ?_)
          have hl : lv_has ls 8 [(0, .ref (xa 0 0)), (1, .int (nI (xi))), (2, .ref (xa 10 xi)), (3, .int (nI (c + 1))), (4, .ref (xa 4 0)), (5, .int (nI (10))), (6, .int (nI (k + 1))), (7, .ref (xa 13 k))] := lv_sub hl [1, 2, 3, 4, 5, 6, 0, 7] rfl
          refine lv_goto (tgt := 22) hx hb dX4_asks_70 (by decide) ?_
          have hnx : cnt σ xi (k + 1) (c + 1) := ⟨c, _, hc, hown0, Or.inl ⟨c_61m, c_47m, rfl⟩⟩
          exact ih22 (10 - (k + 1)) (k + 1, c + 1) _ _ _ (by omega) ⟨rfl, hW, lv_sub hl [0, 1, 2, 3, 4, 5, 6] rfl, by rw [em1]; exact hnx, by (try dsimp only); omega, by (try dsimp only); omega⟩
    ·
      have em : min k (σ 12 0) = σ 12 0 := by omega
      have em1 : min (k + 1) (σ 12 0) = σ 12 0 := by omega
      rw [em] at hc
      refine lv_aload hx hb dX4_asks_29 (lv_at hl 4 rfl) ?_
      refine lv_iload hx hb dX4_asks_31 (lv_at hl 6 rfl) ?_
      refine x_ald2 hx hb hW 4 0 2 rfl (xg_ta G0 D xa σ τ) (k) (by omega) (by omega) (v := .null) (by show va_rf (if _ then _ else _) = _; rw [if_neg hkn]; rfl) dX4_asks_33 ?_
      refine lv_astoreN (lv' := [(7, .null), (0, .ref (xa 0 0)), (1, .int (nI (xi))), (2, .ref (xa 10 xi)), (3, .int (nI (c))), (4, .ref (xa 4 0)), (5, .int (nI (10))), (6, .int (nI (k)))]) hx hb dX4_asks_34 hl (by decide) rfl (fun ls hl => ?_)
      have hl : lv_has ls 8 [(0, .ref (xa 0 0)), (1, .int (nI (xi))), (2, .ref (xa 10 xi)), (3, .int (nI (c))), (4, .ref (xa 4 0)), (5, .int (nI (10))), (6, .int (nI (k))), (7, .null)] := lv_sub hl [1, 2, 3, 4, 5, 6, 7, 0] rfl
      refine lv_aloadN hx hb dX4_asks_36 (lv_at hl 7 rfl) ?_
      refine lv_ifnullN (tgt := 67) hx hb dX4_asks_38 (by decide) ?_
      refine lv_iinc (v := nI (k + 1)) (lv' := [(6, .int (nI (k + 1))), (0, .ref (xa 0 0)), (1, .int (nI (xi))), (2, .ref (xa 10 xi)), (3, .int (nI (c))), (4, .ref (xa 4 0)), (5, .int (nI (10))), (7, .null)]) hx hb dX4_asks_67 hl (k := 6) rfl (x_inc k 1 rfl) (by decide) rfl (fun ls hl => ?_)
      have hl : lv_has ls 8 [(0, .ref (xa 0 0)), (1, .int (nI (xi))), (2, .ref (xa 10 xi)), (3, .int (nI (c))), (4, .ref (xa 4 0)), (5, .int (nI (10))), (6, .int (nI (k + 1))), (7, .null)] := lv_sub hl [1, 2, 3, 4, 5, 6, 0, 7] rfl
      refine lv_goto (tgt := 22) hx hb dX4_asks_70 (by decide) ?_
      exact ih22 (10 - (k + 1)) (k + 1, c) _ _ _ (by omega) ⟨rfl, hW, lv_sub hl [0, 1, 2, 3, 4, 5, 6] rfl, by rw [em1]; exact hc, by (try dsimp only); omega, by (try dsimp only); omega⟩
