/-! THE FRESH OBJECTS -/
def sg0 : Sg := fun j i => if j = 0 ∧ i = 0 then 1900 else 0
def tg0 : Tg := fun _ _ => none
theorem sg0_0 : sg0 0 0 = 1900 := rfl
theorem sg0_n {j i : Nat} (h : j ≠ 0) : sg0 j i = 0 := if_neg (fun h2 => h h2.1)
theorem sg0_Gd : Gd sg0 := by
  refine ⟨fun j i => ?_, ⟨?_, ?_, ?_, ?_, ?_⟩, fun i hi => ?_, fun i _ => ⟨sg0_n (by decide), sg0_n (by decide)⟩, fun i hi => ?_, fun i _ => sg0_n (by decide), fun i k _ _ => ⟨sg0_n (by decide), sg0_n (by decide)⟩, fun i => ?_, fun i => ?_⟩
  · unfold sg0; split <;> omega
  · rw [sg0_n (by decide)]; omega
  · rw [sg0_n (by decide)]; omega
  · rw [sg0_n (by decide)]; omega
  · rw [sg0_0]; omega
  · rw [sg0_0]; omega
  · rw [sg0_n (by decide)] at hi; omega
  · rw [sg0_n (by decide)] at hi; omega
  · rw [sg0_n (by decide)]; omega
  · rw [sg0_n (by decide)]; omega
theorem sg0_LL : LL sg0 tg0 := fun i hi => by rw [sg0_n (by decide)] at hi; omega
theorem sg0_TE : TE sg0 tg0 := fun i p hi _ => by rw [sg0_n (by decide)] at hi; omega
theorem x0_eq (G : xG) (D : xD) (xa : xA) (hA0 : ∀ k i : Nat, k < 20 ∧ ¬ (k = 0 ∧ i = 0) → G k i = none) : xGs G D xa sg0 tg0 = xup (xup (xup (xup (xup G 1 0 (rfs (D.2 0) 12 (fun _ => none))) 2 0 (rfs (D.2 1) 20 (fun _ => none))) 3 0 (.inl (D.2 4, 5, .inl (fun _ => nI 0)))) 4 0 (rfs (D.2 2) 10 (fun _ => none))) 0 0 (.inr (4, [.ref (xa 1 0), .int (nI 0), .ref (xa 2 0), .int (nI 0), .ref (xa 3 0), .int (nI 1900), .ref (xa 4 0), .int (nI 0)])) := by
  funext k i
  by_cases h0 : k = 0 ∧ i = 0
  · obtain ⟨rfl, rfl⟩ := h0
    rw [xup_self]; rfl
  rw [xup_ne _ _ h0]
  by_cases h4 : k = 4 ∧ i = 0
  · obtain ⟨rfl, rfl⟩ := h4
    rw [xup_self, rfs_none (c := sg0 12 0) (f := fun j => xa 13 j) (sg0_n (by decide))]; rfl
  rw [xup_ne _ _ h4]
  by_cases h3 : k = 3 ∧ i = 0
  · obtain ⟨rfl, rfl⟩ := h3
    rw [xup_self]; rfl
  rw [xup_ne _ _ h3]
  by_cases h2 : k = 2 ∧ i = 0
  · obtain ⟨rfl, rfl⟩ := h2
    rw [xup_self, rfs_none (c := sg0 7 0) (f := fun j => xa 12 j) (sg0_n (by decide))]; rfl
  rw [xup_ne _ _ h2]
  by_cases h1 : k = 1 ∧ i = 0
  · obtain ⟨rfl, rfl⟩ := h1
    rw [xup_self, rfs_none (c := sg0 5 0) (f := fun j => xa 10 j) (sg0_n (by decide))]; rfl
  rw [xup_ne _ _ h1]
  unfold xGs
  split
  case isFalse => rfl
  case isTrue hk =>
    rw [hA0 k i ⟨hk, h0⟩]
    unfold xE
    split
    · rw [if_neg (fun h => h0 ⟨rfl, h⟩)]
    · rw [if_neg (fun h => h1 ⟨rfl, h⟩)]
    · rw [if_neg (fun h => h2 ⟨rfl, h⟩)]
    · rw [if_neg (fun h => h3 ⟨rfl, h⟩)]
    · rw [if_neg (fun h => h4 ⟨rfl, h⟩)]
    · rw [if_neg (by rw [sg0_n (by decide)]; omega)]
    · rw [if_neg (by rw [sg0_n (by decide)]; omega)]
    · rw [if_neg (by rw [sg0_n (by decide)]; omega)]
    · rw [if_neg (by rw [sg0_n (by decide)]; omega)]
    · rw [if_neg (by rw [sg0_n (by decide)]; omega)]
    · rw [if_neg (by rw [sg0_n (j := 12) (by decide)]; omega)]
    · rfl

set_option maxHeartbeats 4000000 in
set_option maxRecDepth 100000 in
theorem c_X4_init (l : Launch) (D : xD) (sa : Nat → Nat) (xa : xA) (G : xG) (hG0 : G 0 0 = some (.inr (4, [.null, .int (nI 0), .null, .int (nI 0), .null, .int (nI 0), .null, .int (nI 0)]))) (hA0 : ∀ k_ i_ : Nat, k_ < 20 ∧ ¬ (k_ = 0 ∧ i_ = 0) → G k_ i_ = none) : xCv l yX4_init wsX4_init ({ frames := 10, cells := 4, slots := 47, locals := 200 } : Room) D sa xa G [.ref (xa 0 0)] (fun u => ∃ xb1 : xA, (∀ k_ i_ : Nat, (k_ = 0 ∨ 5 ≤ k_) → xb1 k_ i_ = xa k_ i_) ∧ u = (xb1, xGs G D xb1 sg0 tg0)) 4 47 := by
  intro sz
  refine Met.ofW (cc := cX4_init) (maxL := 1) (ret := none) (by decide +kernel) rfl ?_
  intro p e s m args below meth c s₁ B hml hv
  obtain ⟨rfl, hsz, hv2⟩ := hv
  subst hsz
  have hx := B.exec
  have hb := B.bytes
  have hr := B.returns
  have hts := atoms_spec (ws := wsX4_init) B.pre
  have hown : s.vm.findClass RX4 = some m.cls := findClass_of_methodNamed B.named
  have hlocks := B.notSynchronized
  have hin4 : ∀ w ∈ wsX40, w ∈ wsX4_init := by decide +kernel
  have hW := xW.start (s := s) ⟨rfl, hv2⟩
  clear hv2
  generalize xAw xa (G) s.heap.size = A at hW ⊢
  have hl := lv_entry ([.ref (xa 0 0)]) (n := 1) (Nat.le_of_ble_eq_true rfl)
  rw [lg_entry_eq]
  generalize (lg_sl ([.ref (xa 0 0)]) ++ List.replicate (1 - (lg_sl ([.ref (xa 0 0)])).length) Slot.unset).toArray = ls at hl ⊢
  have hl : lv_has ls 1 [(0, .ref (xa 0 0))] := hl
  have hnm : meth.name = "<init>" := (name_of_methodNamed B.named B.method).1
  refine lv_aload_n hx hb dX4_init_0 rfl (lv_at hl 0 rfl) ?_
  refine W.objInit hx hb hown (hts (.methodLink RX4 1 objectInit) (by decide +kernel)) (hts (.instanceMethod objectInit) (by decide +kernel)) (hts (.code objectInit ⟨#[0xb1]⟩ 1 none) (by decide +kernel)) rfl (hl.1.trans hml.symm) rfl dX4_init_1 (Nat.le_of_ble_eq_true rfl) (Nat.le_of_ble_eq_true rfl) ?_
  show W _ _ _ _ _ _ _ _ _ _ _ _ _ _ _ (F0 _ 4 ls [])
  refine lv_aload_n hx hb dX4_init_4 rfl (lv_at hl 0 rfl) ?_
  refine lv_bipush (v := nI (12)) hx hb dX4_init_5 (by decide +kernel) ?_
  refine x_newq (N' := 12) hx hb hown (hts (.classLink RX4 9 RX1) (by decide +kernel)) (hW.AO (by decide)) hW 1 0 0 rfl (hA0 1 0 (by omega)) (by decide +kernel) (by decide +kernel) (by omega) (Nat.le_of_ble_eq_true rfl) (Nat.le_of_ble_eq_true rfl) dX4_init_7 fun xb1 H hxb1 hW => ?_
  refine W_stk (st' := [.ref (xb1 1 0), .ref (xb1 0 0)]) (by rw [hxb1 0 0 (by omega)]) ?_
  have hl : lv_has ls 1 [(0, .ref (xb1 0 0))] := by rw [hxb1 0 0 (by omega)]; exact hl
  refine x_putF (ty := .array (.object "Restitutory$Person")) (v := .ref (xb1 1 0)) hx hb hts hin4 tyX4 tyX4_ok nmX4 hown hW 0 (0) (fs := [.null, .int (nI (0)), .null, .int (nI (0)), .null, .int (nI (0)), .null, .int (nI (0))]) ((xup_ne _ _ (by omega)).trans (hG0)) rfl 0 (by decide) (hts (.fieldLink RX4 11 RX4 "people" "[LRestitutory$Person;") (by decide +kernel)) rfl rfl hnm (by decide +kernel) rfl rfl (Nat.le_of_ble_eq_true rfl) dX4_init_10 fun H locs hW => ?_
  have hW : xW D sa A s xb1 (xup (xup (G) 1 0 (rfs (D.2 0) 12 (fun _ => none))) 0 0 (.inr (4, [.ref (xb1 1 0), .int (nI (0)), .null, .int (nI (0)), .null, .int (nI (0)), .null, .int (nI (0))]))) H locs := hW
  refine lv_aload_n hx hb dX4_init_13 rfl (lv_at hl 0 rfl) ?_
  refine lv_bipush (v := nI (20)) hx hb dX4_init_14 (by decide +kernel) ?_
  refine x_newq (N' := 20) hx hb hown (hts (.classLink RX4 15 RX0) (by decide +kernel)) (hW.AO (by decide)) hW 2 0 1 rfl ((xup_ne _ _ (by omega)).trans ((xup_ne _ _ (by omega)).trans (hA0 2 0 (by omega)))) (by decide +kernel) (by decide +kernel) (by omega) (Nat.le_of_ble_eq_true rfl) (Nat.le_of_ble_eq_true rfl) dX4_init_16 fun xb2 H hxb2 hW => ?_
  refine W_stk (st' := [.ref (xb2 2 0), .ref (xb2 0 0)]) (by rw [hxb2 0 0 (by omega)]) ?_
  have hl : lv_has ls 1 [(0, .ref (xb2 0 0))] := by rw [hxb2 0 0 (by omega)]; exact hl
  rw [← hxb2 1 0 (by omega)] at hW
  refine x_putF (ty := .array (.object "Restitutory$Persecution")) (v := .ref (xb2 2 0)) hx hb hts hin4 tyX4 tyX4_ok nmX4 hown hW 0 (0) (fs := [.ref (xb2 1 0), .int (nI (0)), .null, .int (nI (0)), .null, .int (nI (0)), .null, .int (nI (0))]) ((xup_ne _ _ (by omega)).trans ((xup_self _ _ _ _))) rfl 2 (by decide) (hts (.fieldLink RX4 17 RX4 "persecutions" "[LRestitutory$Persecution;") (by decide +kernel)) rfl rfl hnm (by decide +kernel) rfl rfl (Nat.le_of_ble_eq_true rfl) dX4_init_19 fun H locs hW => ?_
  have hW : xW D sa A s xb2 (xup (xup (xup (G) 1 0 (rfs (D.2 0) 12 (fun _ => none))) 2 0 (rfs (D.2 1) 20 (fun _ => none))) 0 0 (.inr (4, [.ref (xb2 1 0), .int (nI (0)), .ref (xb2 2 0), .int (nI (0)), .null, .int (nI (0)), .null, .int (nI (0))]))) H locs := hW.eqG (xup_sq1 _ _ _ _ _ _ _ _).symm
  refine lv_aload_n hx hb dX4_init_22 rfl (lv_at hl 0 rfl) ?_
  refine lv_iconst (v := nI (5)) hx hb dX4_init_23 (by decide +kernel) ?_
  refine x_newa (atype := .int) (N' := 5) (a0 := (5, .inl (fun _ => nI 0))) hx hb (hts (.arrayClass .int) (by decide +kernel)) 4 (ty := .int) rfl rfl id hW 3 0 ((xup_ne _ _ (by omega)).trans ((xup_ne _ _ (by omega)).trans ((xup_ne _ _ (by omega)).trans (hA0 3 0 (by omega))))) (fun cA => by rw [vp_cell_i]; rfl) (by decide +kernel) (by decide +kernel) (by decide +kernel) (Nat.le_of_ble_eq_true rfl) (Nat.le_of_ble_eq_true rfl) dX4_init_24 fun xb3 H hxb3 hW => ?_
  refine W_stk (st' := [.ref (xb3 3 0), .ref (xb3 0 0)]) (by rw [hxb3 0 0 (by omega)]) ?_
  have hl : lv_has ls 1 [(0, .ref (xb3 0 0))] := by rw [hxb3 0 0 (by omega)]; exact hl
  rw [← hxb3 1 0 (by omega), ← hxb3 2 0 (by omega)] at hW
  refine x_putF (ty := .array (.int)) (v := .ref (xb3 3 0)) hx hb hts hin4 tyX4 tyX4_ok nmX4 hown hW 0 (0) (fs := [.ref (xb3 1 0), .int (nI (0)), .ref (xb3 2 0), .int (nI (0)), .null, .int (nI (0)), .null, .int (nI (0))]) ((xup_ne _ _ (by omega)).trans ((xup_self _ _ _ _))) rfl 4 (by decide) (hts (.fieldLink RX4 21 RX4 "faithYears" "[I") (by decide +kernel)) rfl rfl hnm (by decide +kernel) rfl rfl (Nat.le_of_ble_eq_true rfl) dX4_init_26 fun H locs hW => ?_
  have hW : xW D sa A s xb3 (xup (xup (xup (xup (G) 1 0 (rfs (D.2 0) 12 (fun _ => none))) 2 0 (rfs (D.2 1) 20 (fun _ => none))) 3 0 (.inl (D.2 4, 5, .inl (fun _ => nI 0)))) 0 0 (.inr (4, [.ref (xb3 1 0), .int (nI (0)), .ref (xb3 2 0), .int (nI (0)), .ref (xb3 3 0), .int (nI (0)), .null, .int (nI (0))]))) H locs := hW.eqG (xup_sq1 _ _ _ _ _ _ _ _).symm
  refine lv_aload_n hx hb dX4_init_29 rfl (lv_at hl 0 rfl) ?_
  refine lv_sipush (v := nI (1900)) hx hb dX4_init_30 (by decide +kernel) ?_
  refine x_put (ty := .int) (v := .int (nI (1900))) hx hb hts hin4 tyX4 tyX4_ok nmX4 hown hW 0 (0) (fs := [.ref (xb3 1 0), .int (nI (0)), .ref (xb3 2 0), .int (nI (0)), .ref (xb3 3 0), .int (nI (0)), .null, .int (nI (0))]) ((xup_self _ _ _ _)) rfl 5 (by decide) (hts (.fieldLink RX4 25 "Restitutory" "currentYear" "I") (by decide +kernel)) rfl rfl (by decide +kernel) rfl rfl (Nat.le_of_ble_eq_true rfl) dX4_init_33 fun H locs hW => ?_
  have hW : xW D sa A s xb3 (xup (xup (xup (xup (G) 1 0 (rfs (D.2 0) 12 (fun _ => none))) 2 0 (rfs (D.2 1) 20 (fun _ => none))) 3 0 (.inl (D.2 4, 5, .inl (fun _ => nI 0)))) 0 0 (.inr (4, [.ref (xb3 1 0), .int (nI (0)), .ref (xb3 2 0), .int (nI (0)), .ref (xb3 3 0), .int (nI (1900)), .null, .int (nI (0))]))) H locs := hW.eqG (xup_sq _ _ _ _ _).symm
  refine lv_aload_n hx hb dX4_init_36 rfl (lv_at hl 0 rfl) ?_
  refine lv_bipush (v := nI (10)) hx hb dX4_init_37 (by decide +kernel) ?_
  refine x_newq (N' := 10) hx hb hown (hts (.classLink RX4 29 RX3) (by decide +kernel)) (hW.AO (by decide)) hW 4 0 2 rfl ((xup_ne _ _ (by omega)).trans ((xup_ne _ _ (by omega)).trans ((xup_ne _ _ (by omega)).trans ((xup_ne _ _ (by omega)).trans (hA0 4 0 (by omega)))))) (by decide +kernel) (by decide +kernel) (by omega) (Nat.le_of_ble_eq_true rfl) (Nat.le_of_ble_eq_true rfl) dX4_init_39 fun xb4 H hxb4 hW => ?_
  refine W_stk (st' := [.ref (xb4 4 0), .ref (xb4 0 0)]) (by rw [hxb4 0 0 (by omega)]) ?_
  have hl : lv_has ls 1 [(0, .ref (xb4 0 0))] := by rw [hxb4 0 0 (by omega)]; exact hl
  rw [← hxb4 1 0 (by omega), ← hxb4 2 0 (by omega), ← hxb4 3 0 (by omega)] at hW
  refine x_putF (ty := .array (.object "Restitutory$Thing")) (v := .ref (xb4 4 0)) hx hb hts hin4 tyX4 tyX4_ok nmX4 hown hW 0 (0) (fs := [.ref (xb4 1 0), .int (nI (0)), .ref (xb4 2 0), .int (nI (0)), .ref (xb4 3 0), .int (nI (1900)), .null, .int (nI (0))]) ((xup_ne _ _ (by omega)).trans ((xup_self _ _ _ _))) rfl 6 (by decide) (hts (.fieldLink RX4 31 RX4 "things" "[LRestitutory$Thing;") (by decide +kernel)) rfl rfl hnm (by decide +kernel) rfl rfl (Nat.le_of_ble_eq_true rfl) dX4_init_42 fun H locs hW => ?_
  have hW : xW D sa A s xb4 (xup (xup (xup (xup (xup (G) 1 0 (rfs (D.2 0) 12 (fun _ => none))) 2 0 (rfs (D.2 1) 20 (fun _ => none))) 3 0 (.inl (D.2 4, 5, .inl (fun _ => nI 0)))) 4 0 (rfs (D.2 2) 10 (fun _ => none))) 0 0 (.inr (4, [.ref (xb4 1 0), .int (nI (0)), .ref (xb4 2 0), .int (nI (0)), .ref (xb4 3 0), .int (nI (1900)), .ref (xb4 4 0), .int (nI (0))]))) H locs := hW.eqG (xup_sq1 _ _ _ _ _ _ _ _).symm
  exact xe_v hx hb hr hlocks (hW.eqG (x0_eq G D xb4 hA0)) ⟨xb4, fun k_ i_ hk_ => (hxb4 k_ i_ (by omega)).trans ((hxb3 k_ i_ (by omega)).trans ((hxb2 k_ i_ (by omega)).trans (hxb1 k_ i_ (by omega)))), rfl⟩ (Nat.le_of_ble_eq_true rfl) (Nat.le_of_ble_eq_true rfl) dX4_init_45

set_option maxRecDepth 100000 in
theorem m0_eq (G : xG) (D : xD) (xa : xA) (hA0 : ∀ k i : Nat, k = 20 ∧ i ≠ 0 → G k i = none) : mG G D xa sg0 (fun _ => 0) 0 = xup (xup (xup (xup (xup (xup (xup (xup (xup (xup (xup (xup (xup (xup (xup (xup (xup (G) 20 1 (.inl (D.2 4, 12, .inl (fun _ => nI 0)))) 20 2 (.inl (D.2 5, 12, .inl (fun _ => nI 0)))) 20 3 (.inl (D.2 4, 144, .inl (fun _ => nI 0)))) 20 4 (.inl (D.2 4, 12, .inl (fun _ => nI 0)))) 20 6 (.inl (D.2 4, 80, .inl (fun _ => nI 0)))) 20 8 (.inl (D.2 4, 5, .inl (fun _ => nI 0)))) 20 9 (.inl (D.2 4, 10, .inl (fun _ => nI 0)))) 20 10 (.inl (D.2 4, 10, .inl (fun _ => nI 0)))) 20 11 (.inl (D.2 4, 10, .inl (fun _ => nI 0)))) 20 13 (.inl (D.2 4, 80, .inl (fun _ => nI 0)))) 20 14 (.inl (D.2 4, 80, .inl (fun _ => nI 0)))) 20 15 (.inl (D.2 4, 80, .inl (fun _ => nI 0)))) 20 16 (.inl (D.2 4, 80, .inl (fun _ => nI 0)))) 20 17 (.inl (D.2 5, 80, .inl (fun _ => nI 0)))) 20 18 (.inl (D.2 5, 80, .inl (fun _ => nI 0)))) 20 19 (.inl (D.2 4, 8, .inl (fun _ => nI 0)))) 20 0 (.inr (5, [.int (nI 1900), .ref (xa 20 1), .ref (xa 20 2), .ref (xa 20 3), .ref (xa 20 4), .int (nI 0), .ref (xa 20 6), .int (nI 0), .ref (xa 20 8), .ref (xa 20 9), .ref (xa 20 10), .ref (xa 20 11), .int (nI 0), .ref (xa 20 13), .ref (xa 20 14), .ref (xa 20 15), .ref (xa 20 16), .ref (xa 20 17), .ref (xa 20 18), .ref (xa 20 19), .int (nI 0)])) := by
  funext k i
  by_cases h0 : k = 20 ∧ i = 0
  · obtain ⟨rfl, rfl⟩ := h0
    rw [xup_self]; rfl
  rw [xup_ne _ _ h0]
  by_cases h19 : k = 20 ∧ i = 19
  · obtain ⟨rfl, rfl⟩ := h19
    rw [xup_self]; rfl
  rw [xup_ne _ _ h19]
  by_cases h18 : k = 20 ∧ i = 18
  · obtain ⟨rfl, rfl⟩ := h18
    rw [xup_self]; rfl
  rw [xup_ne _ _ h18]
  by_cases h17 : k = 20 ∧ i = 17
  · obtain ⟨rfl, rfl⟩ := h17
    rw [xup_self]; rfl
  rw [xup_ne _ _ h17]
  by_cases h16 : k = 20 ∧ i = 16
  · obtain ⟨rfl, rfl⟩ := h16
    rw [xup_self]; rfl
  rw [xup_ne _ _ h16]
  by_cases h15 : k = 20 ∧ i = 15
  · obtain ⟨rfl, rfl⟩ := h15
    rw [xup_self]; rfl
  rw [xup_ne _ _ h15]
  by_cases h14 : k = 20 ∧ i = 14
  · obtain ⟨rfl, rfl⟩ := h14
    rw [xup_self]; rfl
  rw [xup_ne _ _ h14]
  by_cases h13 : k = 20 ∧ i = 13
  · obtain ⟨rfl, rfl⟩ := h13
    rw [xup_self]; rfl
  rw [xup_ne _ _ h13]
  by_cases h11 : k = 20 ∧ i = 11
  · obtain ⟨rfl, rfl⟩ := h11
    rw [xup_self]; rfl
  rw [xup_ne _ _ h11]
  by_cases h10 : k = 20 ∧ i = 10
  · obtain ⟨rfl, rfl⟩ := h10
    rw [xup_self]; rfl
  rw [xup_ne _ _ h10]
  by_cases h9 : k = 20 ∧ i = 9
  · obtain ⟨rfl, rfl⟩ := h9
    rw [xup_self]; rfl
  rw [xup_ne _ _ h9]
  by_cases h8 : k = 20 ∧ i = 8
  · obtain ⟨rfl, rfl⟩ := h8
    rw [xup_self]; rfl
  rw [xup_ne _ _ h8]
  by_cases h6 : k = 20 ∧ i = 6
  · obtain ⟨rfl, rfl⟩ := h6
    rw [xup_self]; rfl
  rw [xup_ne _ _ h6]
  by_cases h4 : k = 20 ∧ i = 4
  · obtain ⟨rfl, rfl⟩ := h4
    rw [xup_self]; rfl
  rw [xup_ne _ _ h4]
  by_cases h3 : k = 20 ∧ i = 3
  · obtain ⟨rfl, rfl⟩ := h3
    rw [xup_self]; rfl
  rw [xup_ne _ _ h3]
  by_cases h2 : k = 20 ∧ i = 2
  · obtain ⟨rfl, rfl⟩ := h2
    rw [xup_self]; rfl
  rw [xup_ne _ _ h2]
  by_cases h1 : k = 20 ∧ i = 1
  · obtain ⟨rfl, rfl⟩ := h1
    rw [xup_self]; rfl
  rw [xup_ne _ _ h1]
  unfold mG
  split
  case isFalse => rfl
  case isTrue hk =>
    subst hk
    rw [hA0 20 i ⟨rfl, fun h => h0 ⟨rfl, h⟩⟩]
    unfold mE
    split
    · exact absurd ⟨rfl, rfl⟩ h0
    · rfl
    · rfl
    · rfl
    · exact absurd ⟨rfl, rfl⟩ h19
    · rename_i n0 n5 n7 n12 n19
      rw [if_neg]
      intro hi
      have h : i = 1 ∨ i = 2 ∨ i = 3 ∨ i = 4 ∨ i = 6 ∨ i = 8 ∨ i = 9 ∨ i = 10 ∨ i = 11 ∨ i = 13 ∨ i = 14 ∨ i = 15 ∨ i = 16 ∨ i = 17 ∨ i = 18 := by
        have a0 : i ≠ 0 := fun h => n0 h
        have a5 : i ≠ 5 := fun h => n5 h
        have a7 : i ≠ 7 := fun h => n7 h
        have a12 : i ≠ 12 := fun h => n12 h
        have a19 : i ≠ 19 := fun h => n19 h
        omega
      omega

set_option maxHeartbeats 4000000 in
set_option maxRecDepth 100000 in
theorem c_X5_init (l : Launch) (D : xD) (sa : Nat → Nat) (xa : xA) (G : xG) (hG0 : G 20 0 = some (.inr (5, [.int (nI 0), .null, .null, .null, .null, .int (nI 0), .null, .int (nI 0), .null, .null, .null, .null, .int (nI 0), .null, .null, .null, .null, .null, .null, .null, .int (nI 0)]))) (hA0 : ∀ k_ i_ : Nat, k_ = 20 ∧ i_ ≠ 0 → G k_ i_ = none) : xCv l yX5_init wsX5_init ({ frames := 10, cells := 16, slots := 783, locals := 200 } : Room) D sa xa G [.ref (xa 20 0)] (fun u => ∃ xb1 : xA, (∀ k_ i_ : Nat, (k_ ≠ 20 ∨ i_ = 0) → xb1 k_ i_ = xa k_ i_) ∧ u = (xb1, mG G D xb1 sg0 (fun _ => 0) 0)) 16 783 := by
  intro sz
  refine Met.ofW (cc := cX5_init) (maxL := 1) (ret := none) (by decide +kernel) rfl ?_
  intro p e s m args below meth c s₁ B hml hv
  obtain ⟨rfl, hsz, hv2⟩ := hv
  subst hsz
  have hx := B.exec
  have hb := B.bytes
  have hr := B.returns
  have hts := atoms_spec (ws := wsX5_init) B.pre
  have hown : s.vm.findClass RX5 = some m.cls := findClass_of_methodNamed B.named
  have hlocks := B.notSynchronized
  have hin5 : ∀ w ∈ wsX50, w ∈ wsX5_init := by decide +kernel
  have hW := xW.start (s := s) ⟨rfl, hv2⟩
  clear hv2
  generalize xAw xa (G) s.heap.size = A at hW ⊢
  have hl := lv_entry ([.ref (xa 20 0)]) (n := 1) (Nat.le_of_ble_eq_true rfl)
  rw [lg_entry_eq]
  generalize (lg_sl ([.ref (xa 20 0)]) ++ List.replicate (1 - (lg_sl ([.ref (xa 20 0)])).length) Slot.unset).toArray = ls at hl ⊢
  have hl : lv_has ls 1 [(0, .ref (xa 20 0))] := hl
  have hnm : meth.name = "<init>" := (name_of_methodNamed B.named B.method).1
  refine lv_aload_n hx hb dX5_init_0 rfl (lv_at hl 0 rfl) ?_
  refine W.objInit hx hb hown (hts (.methodLink RX5 1 objectInit) (by decide +kernel)) (hts (.instanceMethod objectInit) (by decide +kernel)) (hts (.code objectInit ⟨#[0xb1]⟩ 1 none) (by decide +kernel)) rfl (hl.1.trans hml.symm) rfl dX5_init_1 (Nat.le_of_ble_eq_true rfl) (Nat.le_of_ble_eq_true rfl) ?_
  show W _ _ _ _ _ _ _ _ _ _ _ _ _ _ _ (F0 _ 4 ls [])
  refine lv_aload_n hx hb dX5_init_4 rfl (lv_at hl 0 rfl) ?_
  refine lv_sipush (v := nI (1900)) hx hb dX5_init_5 (by decide +kernel) ?_
  refine x_put (ty := .int) (v := .int (nI (1900))) hx hb hts hin5 tyX5 tyX5_ok nmX5 hown hW 20 (0) (fs := [.int (nI (0)), .null, .null, .null, .null, .int (nI (0)), .null, .int (nI (0)), .null, .null, .null, .null, .int (nI (0)), .null, .null, .null, .null, .null, .null, .null, .int (nI (0))]) (hG0) rfl 0 (by decide) (hts (.fieldLink RX5 7 "RestitutoryModel" "now" "I") (by decide +kernel)) rfl rfl (by decide +kernel) rfl rfl (Nat.le_of_ble_eq_true rfl) dX5_init_8 fun H locs hW => ?_
  have hW : xW D sa A s xa (xup (G) 20 0 (.inr (5, [.int (nI (1900)), .null, .null, .null, .null, .int (nI (0)), .null, .int (nI (0)), .null, .null, .null, .null, .int (nI (0)), .null, .null, .null, .null, .null, .null, .null, .int (nI (0))]))) H locs := hW
  refine lv_aload_n hx hb dX5_init_11 rfl (lv_at hl 0 rfl) ?_
  refine lv_bipush (v := nI (12)) hx hb dX5_init_12 (by decide +kernel) ?_
  refine x_newa (atype := .int) (N' := 12) (a0 := (12, .inl (fun _ => nI 0))) hx hb (hts (.arrayClass .int) (by decide +kernel)) 4 (ty := .int) rfl rfl id hW 20 1 ((xup_ne _ _ (by omega)).trans (hA0 20 1 (by omega))) (fun cA => by rw [vp_cell_i]; rfl) (by decide +kernel) (by decide +kernel) (by decide +kernel) (Nat.le_of_ble_eq_true rfl) (Nat.le_of_ble_eq_true rfl) dX5_init_14 fun xb1 H hxb1 hW => ?_
  refine W_stk (st' := [.ref (xb1 20 1), .ref (xb1 20 0)]) (by rw [hxb1 20 0 (by omega)]) ?_
  have hl : lv_has ls 1 [(0, .ref (xb1 20 0))] := by rw [hxb1 20 0 (by omega)]; exact hl
  refine x_putF (ty := .array (.int)) (v := .ref (xb1 20 1)) hx hb hts hin5 tyX5 tyX5_ok nmX5 hown hW 20 (0) (fs := [.int (nI (1900)), .null, .null, .null, .null, .int (nI (0)), .null, .int (nI (0)), .null, .null, .null, .null, .int (nI (0)), .null, .null, .null, .null, .null, .null, .null, .int (nI (0))]) ((xup_ne _ _ (by omega)).trans ((xup_self _ _ _ _))) rfl 1 (by decide) (hts (.fieldLink RX5 13 RX5 "groups" "[I") (by decide +kernel)) rfl rfl hnm (by decide +kernel) rfl rfl (Nat.le_of_ble_eq_true rfl) dX5_init_16 fun H locs hW => ?_
  have hW : xW D sa A s xb1 (xup (xup (G) 20 1 (.inl (D.2 4, 12, .inl (fun _ => nI 0)))) 20 0 (.inr (5, [.int (nI (1900)), .ref (xb1 20 1), .null, .null, .null, .int (nI (0)), .null, .int (nI (0)), .null, .null, .null, .null, .int (nI (0)), .null, .null, .null, .null, .null, .null, .null, .int (nI (0))]))) H locs := hW.eqG (xup_sq1 _ _ _ _ _ _ _ _).symm
  refine lv_aload_n hx hb dX5_init_19 rfl (lv_at hl 0 rfl) ?_
  refine lv_bipush (v := nI (12)) hx hb dX5_init_20 (by decide +kernel) ?_
  refine x_newa (atype := .boolean) (N' := 12) (a0 := (12, .inl (fun _ => nI 0))) hx hb (hts (.arrayClass .boolean) (by decide +kernel)) 5 (ty := .boolean) rfl rfl id hW 20 2 ((xup_ne _ _ (by omega)).trans ((xup_ne _ _ (by omega)).trans (hA0 20 2 (by omega)))) (fun cA => by rw [vp_cell_i]; rfl) (by decide +kernel) (by decide +kernel) (by decide +kernel) (Nat.le_of_ble_eq_true rfl) (Nat.le_of_ble_eq_true rfl) dX5_init_22 fun xb2 H hxb2 hW => ?_
  refine W_stk (st' := [.ref (xb2 20 2), .ref (xb2 20 0)]) (by rw [hxb2 20 0 (by omega)]) ?_
  have hl : lv_has ls 1 [(0, .ref (xb2 20 0))] := by rw [hxb2 20 0 (by omega)]; exact hl
  rw [← hxb2 20 1 (by omega)] at hW
  refine x_putF (ty := .array (.boolean)) (v := .ref (xb2 20 2)) hx hb hts hin5 tyX5 tyX5_ok nmX5 hown hW 20 (0) (fs := [.int (nI (1900)), .ref (xb2 20 1), .null, .null, .null, .int (nI (0)), .null, .int (nI (0)), .null, .null, .null, .null, .int (nI (0)), .null, .null, .null, .null, .null, .null, .null, .int (nI (0))]) ((xup_ne _ _ (by omega)).trans ((xup_self _ _ _ _))) rfl 2 (by decide) (hts (.fieldLink RX5 17 RX5 "dead" "[Z") (by decide +kernel)) rfl rfl hnm (by decide +kernel) rfl rfl (Nat.le_of_ble_eq_true rfl) dX5_init_24 fun H locs hW => ?_
  have hW : xW D sa A s xb2 (xup (xup (xup (G) 20 1 (.inl (D.2 4, 12, .inl (fun _ => nI 0)))) 20 2 (.inl (D.2 5, 12, .inl (fun _ => nI 0)))) 20 0 (.inr (5, [.int (nI (1900)), .ref (xb2 20 1), .ref (xb2 20 2), .null, .null, .int (nI (0)), .null, .int (nI (0)), .null, .null, .null, .null, .int (nI (0)), .null, .null, .null, .null, .null, .null, .null, .int (nI (0))]))) H locs := hW.eqG (xup_sq1 _ _ _ _ _ _ _ _).symm
  refine lv_aload_n hx hb dX5_init_27 rfl (lv_at hl 0 rfl) ?_
  refine lv_sipush (v := nI (144)) hx hb dX5_init_28 (by decide +kernel) ?_
  refine x_newa (atype := .int) (N' := 144) (a0 := (144, .inl (fun _ => nI 0))) hx hb (hts (.arrayClass .int) (by decide +kernel)) 4 (ty := .int) rfl rfl id hW 20 3 ((xup_ne _ _ (by omega)).trans ((xup_ne _ _ (by omega)).trans ((xup_ne _ _ (by omega)).trans (hA0 20 3 (by omega))))) (fun cA => by rw [vp_cell_i]; rfl) (by decide +kernel) (by decide +kernel) (by decide +kernel) (Nat.le_of_ble_eq_true rfl) (Nat.le_of_ble_eq_true rfl) dX5_init_31 fun xb3 H hxb3 hW => ?_
  refine W_stk (st' := [.ref (xb3 20 3), .ref (xb3 20 0)]) (by rw [hxb3 20 0 (by omega)]) ?_
  have hl : lv_has ls 1 [(0, .ref (xb3 20 0))] := by rw [hxb3 20 0 (by omega)]; exact hl
  rw [← hxb3 20 1 (by omega), ← hxb3 20 2 (by omega)] at hW
  refine x_putF (ty := .array (.int)) (v := .ref (xb3 20 3)) hx hb hts hin5 tyX5 tyX5_ok nmX5 hown hW 20 (0) (fs := [.int (nI (1900)), .ref (xb3 20 1), .ref (xb3 20 2), .null, .null, .int (nI (0)), .null, .int (nI (0)), .null, .null, .null, .null, .int (nI (0)), .null, .null, .null, .null, .null, .null, .null, .int (nI (0))]) ((xup_ne _ _ (by omega)).trans ((xup_self _ _ _ _))) rfl 3 (by decide) (hts (.fieldLink RX5 21 RX5 "heirs" "[I") (by decide +kernel)) rfl rfl hnm (by decide +kernel) rfl rfl (Nat.le_of_ble_eq_true rfl) dX5_init_33 fun H locs hW => ?_
  have hW : xW D sa A s xb3 (xup (xup (xup (xup (G) 20 1 (.inl (D.2 4, 12, .inl (fun _ => nI 0)))) 20 2 (.inl (D.2 5, 12, .inl (fun _ => nI 0)))) 20 3 (.inl (D.2 4, 144, .inl (fun _ => nI 0)))) 20 0 (.inr (5, [.int (nI (1900)), .ref (xb3 20 1), .ref (xb3 20 2), .ref (xb3 20 3), .null, .int (nI (0)), .null, .int (nI (0)), .null, .null, .null, .null, .int (nI (0)), .null, .null, .null, .null, .null, .null, .null, .int (nI (0))]))) H locs := hW.eqG (xup_sq1 _ _ _ _ _ _ _ _).symm
  refine lv_aload_n hx hb dX5_init_36 rfl (lv_at hl 0 rfl) ?_
  refine lv_bipush (v := nI (12)) hx hb dX5_init_37 (by decide +kernel) ?_
  refine x_newa (atype := .int) (N' := 12) (a0 := (12, .inl (fun _ => nI 0))) hx hb (hts (.arrayClass .int) (by decide +kernel)) 4 (ty := .int) rfl rfl id hW 20 4 ((xup_ne _ _ (by omega)).trans ((xup_ne _ _ (by omega)).trans ((xup_ne _ _ (by omega)).trans ((xup_ne _ _ (by omega)).trans (hA0 20 4 (by omega)))))) (fun cA => by rw [vp_cell_i]; rfl) (by decide +kernel) (by decide +kernel) (by decide +kernel) (Nat.le_of_ble_eq_true rfl) (Nat.le_of_ble_eq_true rfl) dX5_init_39 fun xb4 H hxb4 hW => ?_
  refine W_stk (st' := [.ref (xb4 20 4), .ref (xb4 20 0)]) (by rw [hxb4 20 0 (by omega)]) ?_
  have hl : lv_has ls 1 [(0, .ref (xb4 20 0))] := by rw [hxb4 20 0 (by omega)]; exact hl
  rw [← hxb4 20 1 (by omega), ← hxb4 20 2 (by omega), ← hxb4 20 3 (by omega)] at hW
  refine x_putF (ty := .array (.int)) (v := .ref (xb4 20 4)) hx hb hts hin5 tyX5 tyX5_ok nmX5 hown hW 20 (0) (fs := [.int (nI (1900)), .ref (xb4 20 1), .ref (xb4 20 2), .ref (xb4 20 3), .null, .int (nI (0)), .null, .int (nI (0)), .null, .null, .null, .null, .int (nI (0)), .null, .null, .null, .null, .null, .null, .null, .int (nI (0))]) ((xup_ne _ _ (by omega)).trans ((xup_self _ _ _ _))) rfl 4 (by decide) (hts (.fieldLink RX5 24 RX5 "heirMany" "[I") (by decide +kernel)) rfl rfl hnm (by decide +kernel) rfl rfl (Nat.le_of_ble_eq_true rfl) dX5_init_41 fun H locs hW => ?_
  have hW : xW D sa A s xb4 (xup (xup (xup (xup (xup (G) 20 1 (.inl (D.2 4, 12, .inl (fun _ => nI 0)))) 20 2 (.inl (D.2 5, 12, .inl (fun _ => nI 0)))) 20 3 (.inl (D.2 4, 144, .inl (fun _ => nI 0)))) 20 4 (.inl (D.2 4, 12, .inl (fun _ => nI 0)))) 20 0 (.inr (5, [.int (nI (1900)), .ref (xb4 20 1), .ref (xb4 20 2), .ref (xb4 20 3), .ref (xb4 20 4), .int (nI (0)), .null, .int (nI (0)), .null, .null, .null, .null, .int (nI (0)), .null, .null, .null, .null, .null, .null, .null, .int (nI (0))]))) H locs := hW.eqG (xup_sq1 _ _ _ _ _ _ _ _).symm
  refine lv_aload_n hx hb dX5_init_44 rfl (lv_at hl 0 rfl) ?_
  refine lv_bipush (v := nI (80)) hx hb dX5_init_45 (by decide +kernel) ?_
  refine x_newa (atype := .int) (N' := 80) (a0 := (80, .inl (fun _ => nI 0))) hx hb (hts (.arrayClass .int) (by decide +kernel)) 4 (ty := .int) rfl rfl id hW 20 6 ((xup_ne _ _ (by omega)).trans ((xup_ne _ _ (by omega)).trans ((xup_ne _ _ (by omega)).trans ((xup_ne _ _ (by omega)).trans ((xup_ne _ _ (by omega)).trans (hA0 20 6 (by omega))))))) (fun cA => by rw [vp_cell_i]; rfl) (by decide +kernel) (by decide +kernel) (by decide +kernel) (Nat.le_of_ble_eq_true rfl) (Nat.le_of_ble_eq_true rfl) dX5_init_47 fun xb5 H hxb5 hW => ?_
  refine W_stk (st' := [.ref (xb5 20 6), .ref (xb5 20 0)]) (by rw [hxb5 20 0 (by omega)]) ?_
  have hl : lv_has ls 1 [(0, .ref (xb5 20 0))] := by rw [hxb5 20 0 (by omega)]; exact hl
  rw [← hxb5 20 1 (by omega), ← hxb5 20 2 (by omega), ← hxb5 20 3 (by omega), ← hxb5 20 4 (by omega)] at hW
  refine x_putF (ty := .array (.int)) (v := .ref (xb5 20 6)) hx hb hts hin5 tyX5 tyX5_ok nmX5 hown hW 20 (0) (fs := [.int (nI (1900)), .ref (xb5 20 1), .ref (xb5 20 2), .ref (xb5 20 3), .ref (xb5 20 4), .int (nI (0)), .null, .int (nI (0)), .null, .null, .null, .null, .int (nI (0)), .null, .null, .null, .null, .null, .null, .null, .int (nI (0))]) ((xup_ne _ _ (by omega)).trans ((xup_self _ _ _ _))) rfl 6 (by decide) (hts (.fieldLink RX5 27 RX5 "persecutions" "[I") (by decide +kernel)) rfl rfl hnm (by decide +kernel) rfl rfl (Nat.le_of_ble_eq_true rfl) dX5_init_49 fun H locs hW => ?_
  have hW : xW D sa A s xb5 (xup (xup (xup (xup (xup (xup (G) 20 1 (.inl (D.2 4, 12, .inl (fun _ => nI 0)))) 20 2 (.inl (D.2 5, 12, .inl (fun _ => nI 0)))) 20 3 (.inl (D.2 4, 144, .inl (fun _ => nI 0)))) 20 4 (.inl (D.2 4, 12, .inl (fun _ => nI 0)))) 20 6 (.inl (D.2 4, 80, .inl (fun _ => nI 0)))) 20 0 (.inr (5, [.int (nI (1900)), .ref (xb5 20 1), .ref (xb5 20 2), .ref (xb5 20 3), .ref (xb5 20 4), .int (nI (0)), .ref (xb5 20 6), .int (nI (0)), .null, .null, .null, .null, .int (nI (0)), .null, .null, .null, .null, .null, .null, .null, .int (nI (0))]))) H locs := hW.eqG (xup_sq1 _ _ _ _ _ _ _ _).symm
  refine lv_aload_n hx hb dX5_init_52 rfl (lv_at hl 0 rfl) ?_
  refine lv_iconst (v := nI (5)) hx hb dX5_init_53 (by decide +kernel) ?_
  refine x_newa (atype := .int) (N' := 5) (a0 := (5, .inl (fun _ => nI 0))) hx hb (hts (.arrayClass .int) (by decide +kernel)) 4 (ty := .int) rfl rfl id hW 20 8 ((xup_ne _ _ (by omega)).trans ((xup_ne _ _ (by omega)).trans ((xup_ne _ _ (by omega)).trans ((xup_ne _ _ (by omega)).trans ((xup_ne _ _ (by omega)).trans ((xup_ne _ _ (by omega)).trans (hA0 20 8 (by omega)))))))) (fun cA => by rw [vp_cell_i]; rfl) (by decide +kernel) (by decide +kernel) (by decide +kernel) (Nat.le_of_ble_eq_true rfl) (Nat.le_of_ble_eq_true rfl) dX5_init_54 fun xb6 H hxb6 hW => ?_
  refine W_stk (st' := [.ref (xb6 20 8), .ref (xb6 20 0)]) (by rw [hxb6 20 0 (by omega)]) ?_
  have hl : lv_has ls 1 [(0, .ref (xb6 20 0))] := by rw [hxb6 20 0 (by omega)]; exact hl
  rw [← hxb6 20 1 (by omega), ← hxb6 20 2 (by omega), ← hxb6 20 3 (by omega), ← hxb6 20 4 (by omega), ← hxb6 20 6 (by omega)] at hW
  refine x_putF (ty := .array (.int)) (v := .ref (xb6 20 8)) hx hb hts hin5 tyX5 tyX5_ok nmX5 hown hW 20 (0) (fs := [.int (nI (1900)), .ref (xb6 20 1), .ref (xb6 20 2), .ref (xb6 20 3), .ref (xb6 20 4), .int (nI (0)), .ref (xb6 20 6), .int (nI (0)), .null, .null, .null, .null, .int (nI (0)), .null, .null, .null, .null, .null, .null, .null, .int (nI (0))]) ((xup_ne _ _ (by omega)).trans ((xup_self _ _ _ _))) rfl 8 (by decide) (hts (.fieldLink RX5 30 RX5 "faiths" "[I") (by decide +kernel)) rfl rfl hnm (by decide +kernel) rfl rfl (Nat.le_of_ble_eq_true rfl) dX5_init_56 fun H locs hW => ?_
  have hW : xW D sa A s xb6 (xup (xup (xup (xup (xup (xup (xup (G) 20 1 (.inl (D.2 4, 12, .inl (fun _ => nI 0)))) 20 2 (.inl (D.2 5, 12, .inl (fun _ => nI 0)))) 20 3 (.inl (D.2 4, 144, .inl (fun _ => nI 0)))) 20 4 (.inl (D.2 4, 12, .inl (fun _ => nI 0)))) 20 6 (.inl (D.2 4, 80, .inl (fun _ => nI 0)))) 20 8 (.inl (D.2 4, 5, .inl (fun _ => nI 0)))) 20 0 (.inr (5, [.int (nI (1900)), .ref (xb6 20 1), .ref (xb6 20 2), .ref (xb6 20 3), .ref (xb6 20 4), .int (nI (0)), .ref (xb6 20 6), .int (nI (0)), .ref (xb6 20 8), .null, .null, .null, .int (nI (0)), .null, .null, .null, .null, .null, .null, .null, .int (nI (0))]))) H locs := hW.eqG (xup_sq1 _ _ _ _ _ _ _ _).symm
  refine lv_aload_n hx hb dX5_init_59 rfl (lv_at hl 0 rfl) ?_
  refine lv_bipush (v := nI (10)) hx hb dX5_init_60 (by decide +kernel) ?_
  refine x_newa (atype := .int) (N' := 10) (a0 := (10, .inl (fun _ => nI 0))) hx hb (hts (.arrayClass .int) (by decide +kernel)) 4 (ty := .int) rfl rfl id hW 20 9 ((xup_ne _ _ (by omega)).trans ((xup_ne _ _ (by omega)).trans ((xup_ne _ _ (by omega)).trans ((xup_ne _ _ (by omega)).trans ((xup_ne _ _ (by omega)).trans ((xup_ne _ _ (by omega)).trans ((xup_ne _ _ (by omega)).trans (hA0 20 9 (by omega))))))))) (fun cA => by rw [vp_cell_i]; rfl) (by decide +kernel) (by decide +kernel) (by decide +kernel) (Nat.le_of_ble_eq_true rfl) (Nat.le_of_ble_eq_true rfl) dX5_init_62 fun xb7 H hxb7 hW => ?_
  refine W_stk (st' := [.ref (xb7 20 9), .ref (xb7 20 0)]) (by rw [hxb7 20 0 (by omega)]) ?_
  have hl : lv_has ls 1 [(0, .ref (xb7 20 0))] := by rw [hxb7 20 0 (by omega)]; exact hl
  rw [← hxb7 20 1 (by omega), ← hxb7 20 2 (by omega), ← hxb7 20 3 (by omega), ← hxb7 20 4 (by omega), ← hxb7 20 6 (by omega), ← hxb7 20 8 (by omega)] at hW
  refine x_putF (ty := .array (.int)) (v := .ref (xb7 20 9)) hx hb hts hin5 tyX5 tyX5_ok nmX5 hown hW 20 (0) (fs := [.int (nI (1900)), .ref (xb7 20 1), .ref (xb7 20 2), .ref (xb7 20 3), .ref (xb7 20 4), .int (nI (0)), .ref (xb7 20 6), .int (nI (0)), .ref (xb7 20 8), .null, .null, .null, .int (nI (0)), .null, .null, .null, .null, .null, .null, .null, .int (nI (0))]) ((xup_ne _ _ (by omega)).trans ((xup_self _ _ _ _))) rfl 9 (by decide) (hts (.fieldLink RX5 33 RX5 "marks" "[I") (by decide +kernel)) rfl rfl hnm (by decide +kernel) rfl rfl (Nat.le_of_ble_eq_true rfl) dX5_init_64 fun H locs hW => ?_
  have hW : xW D sa A s xb7 (xup (xup (xup (xup (xup (xup (xup (xup (G) 20 1 (.inl (D.2 4, 12, .inl (fun _ => nI 0)))) 20 2 (.inl (D.2 5, 12, .inl (fun _ => nI 0)))) 20 3 (.inl (D.2 4, 144, .inl (fun _ => nI 0)))) 20 4 (.inl (D.2 4, 12, .inl (fun _ => nI 0)))) 20 6 (.inl (D.2 4, 80, .inl (fun _ => nI 0)))) 20 8 (.inl (D.2 4, 5, .inl (fun _ => nI 0)))) 20 9 (.inl (D.2 4, 10, .inl (fun _ => nI 0)))) 20 0 (.inr (5, [.int (nI (1900)), .ref (xb7 20 1), .ref (xb7 20 2), .ref (xb7 20 3), .ref (xb7 20 4), .int (nI (0)), .ref (xb7 20 6), .int (nI (0)), .ref (xb7 20 8), .ref (xb7 20 9), .null, .null, .int (nI (0)), .null, .null, .null, .null, .null, .null, .null, .int (nI (0))]))) H locs := hW.eqG (xup_sq1 _ _ _ _ _ _ _ _).symm
  refine lv_aload_n hx hb dX5_init_67 rfl (lv_at hl 0 rfl) ?_
  refine lv_bipush (v := nI (10)) hx hb dX5_init_68 (by decide +kernel) ?_
  refine x_newa (atype := .int) (N' := 10) (a0 := (10, .inl (fun _ => nI 0))) hx hb (hts (.arrayClass .int) (by decide +kernel)) 4 (ty := .int) rfl rfl id hW 20 10 ((xup_ne _ _ (by omega)).trans ((xup_ne _ _ (by omega)).trans ((xup_ne _ _ (by omega)).trans ((xup_ne _ _ (by omega)).trans ((xup_ne _ _ (by omega)).trans ((xup_ne _ _ (by omega)).trans ((xup_ne _ _ (by omega)).trans ((xup_ne _ _ (by omega)).trans (hA0 20 10 (by omega)))))))))) (fun cA => by rw [vp_cell_i]; rfl) (by decide +kernel) (by decide +kernel) (by decide +kernel) (Nat.le_of_ble_eq_true rfl) (Nat.le_of_ble_eq_true rfl) dX5_init_70 fun xb8 H hxb8 hW => ?_
  refine W_stk (st' := [.ref (xb8 20 10), .ref (xb8 20 0)]) (by rw [hxb8 20 0 (by omega)]) ?_
  have hl : lv_has ls 1 [(0, .ref (xb8 20 0))] := by rw [hxb8 20 0 (by omega)]; exact hl
  rw [← hxb8 20 1 (by omega), ← hxb8 20 2 (by omega), ← hxb8 20 3 (by omega), ← hxb8 20 4 (by omega), ← hxb8 20 6 (by omega), ← hxb8 20 8 (by omega), ← hxb8 20 9 (by omega)] at hW
  refine x_putF (ty := .array (.int)) (v := .ref (xb8 20 10)) hx hb hts hin5 tyX5 tyX5_ok nmX5 hown hW 20 (0) (fs := [.int (nI (1900)), .ref (xb8 20 1), .ref (xb8 20 2), .ref (xb8 20 3), .ref (xb8 20 4), .int (nI (0)), .ref (xb8 20 6), .int (nI (0)), .ref (xb8 20 8), .ref (xb8 20 9), .null, .null, .int (nI (0)), .null, .null, .null, .null, .null, .null, .null, .int (nI (0))]) ((xup_ne _ _ (by omega)).trans ((xup_self _ _ _ _))) rfl 10 (by decide) (hts (.fieldLink RX5 36 RX5 "sizes" "[I") (by decide +kernel)) rfl rfl hnm (by decide +kernel) rfl rfl (Nat.le_of_ble_eq_true rfl) dX5_init_72 fun H locs hW => ?_
  have hW : xW D sa A s xb8 (xup (xup (xup (xup (xup (xup (xup (xup (xup (G) 20 1 (.inl (D.2 4, 12, .inl (fun _ => nI 0)))) 20 2 (.inl (D.2 5, 12, .inl (fun _ => nI 0)))) 20 3 (.inl (D.2 4, 144, .inl (fun _ => nI 0)))) 20 4 (.inl (D.2 4, 12, .inl (fun _ => nI 0)))) 20 6 (.inl (D.2 4, 80, .inl (fun _ => nI 0)))) 20 8 (.inl (D.2 4, 5, .inl (fun _ => nI 0)))) 20 9 (.inl (D.2 4, 10, .inl (fun _ => nI 0)))) 20 10 (.inl (D.2 4, 10, .inl (fun _ => nI 0)))) 20 0 (.inr (5, [.int (nI (1900)), .ref (xb8 20 1), .ref (xb8 20 2), .ref (xb8 20 3), .ref (xb8 20 4), .int (nI (0)), .ref (xb8 20 6), .int (nI (0)), .ref (xb8 20 8), .ref (xb8 20 9), .ref (xb8 20 10), .null, .int (nI (0)), .null, .null, .null, .null, .null, .null, .null, .int (nI (0))]))) H locs := hW.eqG (xup_sq1 _ _ _ _ _ _ _ _).symm
  refine lv_aload_n hx hb dX5_init_75 rfl (lv_at hl 0 rfl) ?_
  refine lv_bipush (v := nI (10)) hx hb dX5_init_76 (by decide +kernel) ?_
  refine x_newa (atype := .int) (N' := 10) (a0 := (10, .inl (fun _ => nI 0))) hx hb (hts (.arrayClass .int) (by decide +kernel)) 4 (ty := .int) rfl rfl id hW 20 11 ((xup_ne _ _ (by omega)).trans ((xup_ne _ _ (by omega)).trans ((xup_ne _ _ (by omega)).trans ((xup_ne _ _ (by omega)).trans ((xup_ne _ _ (by omega)).trans ((xup_ne _ _ (by omega)).trans ((xup_ne _ _ (by omega)).trans ((xup_ne _ _ (by omega)).trans ((xup_ne _ _ (by omega)).trans (hA0 20 11 (by omega))))))))))) (fun cA => by rw [vp_cell_i]; rfl) (by decide +kernel) (by decide +kernel) (by decide +kernel) (Nat.le_of_ble_eq_true rfl) (Nat.le_of_ble_eq_true rfl) dX5_init_78 fun xb9 H hxb9 hW => ?_
  refine W_stk (st' := [.ref (xb9 20 11), .ref (xb9 20 0)]) (by rw [hxb9 20 0 (by omega)]) ?_
  have hl : lv_has ls 1 [(0, .ref (xb9 20 0))] := by rw [hxb9 20 0 (by omega)]; exact hl
  rw [← hxb9 20 1 (by omega), ← hxb9 20 2 (by omega), ← hxb9 20 3 (by omega), ← hxb9 20 4 (by omega), ← hxb9 20 6 (by omega), ← hxb9 20 8 (by omega), ← hxb9 20 9 (by omega), ← hxb9 20 10 (by omega)] at hW
  refine x_putF (ty := .array (.int)) (v := .ref (xb9 20 11)) hx hb hts hin5 tyX5 tyX5_ok nmX5 hown hW 20 (0) (fs := [.int (nI (1900)), .ref (xb9 20 1), .ref (xb9 20 2), .ref (xb9 20 3), .ref (xb9 20 4), .int (nI (0)), .ref (xb9 20 6), .int (nI (0)), .ref (xb9 20 8), .ref (xb9 20 9), .ref (xb9 20 10), .null, .int (nI (0)), .null, .null, .null, .null, .null, .null, .null, .int (nI (0))]) ((xup_ne _ _ (by omega)).trans ((xup_self _ _ _ _))) rfl 11 (by decide) (hts (.fieldLink RX5 39 RX5 "stationMany" "[I") (by decide +kernel)) rfl rfl hnm (by decide +kernel) rfl rfl (Nat.le_of_ble_eq_true rfl) dX5_init_80 fun H locs hW => ?_
  have hW : xW D sa A s xb9 (xup (xup (xup (xup (xup (xup (xup (xup (xup (xup (G) 20 1 (.inl (D.2 4, 12, .inl (fun _ => nI 0)))) 20 2 (.inl (D.2 5, 12, .inl (fun _ => nI 0)))) 20 3 (.inl (D.2 4, 144, .inl (fun _ => nI 0)))) 20 4 (.inl (D.2 4, 12, .inl (fun _ => nI 0)))) 20 6 (.inl (D.2 4, 80, .inl (fun _ => nI 0)))) 20 8 (.inl (D.2 4, 5, .inl (fun _ => nI 0)))) 20 9 (.inl (D.2 4, 10, .inl (fun _ => nI 0)))) 20 10 (.inl (D.2 4, 10, .inl (fun _ => nI 0)))) 20 11 (.inl (D.2 4, 10, .inl (fun _ => nI 0)))) 20 0 (.inr (5, [.int (nI (1900)), .ref (xb9 20 1), .ref (xb9 20 2), .ref (xb9 20 3), .ref (xb9 20 4), .int (nI (0)), .ref (xb9 20 6), .int (nI (0)), .ref (xb9 20 8), .ref (xb9 20 9), .ref (xb9 20 10), .ref (xb9 20 11), .int (nI (0)), .null, .null, .null, .null, .null, .null, .null, .int (nI (0))]))) H locs := hW.eqG (xup_sq1 _ _ _ _ _ _ _ _).symm
  refine lv_aload_n hx hb dX5_init_83 rfl (lv_at hl 0 rfl) ?_
  refine lv_bipush (v := nI (80)) hx hb dX5_init_84 (by decide +kernel) ?_
  refine x_newa (atype := .int) (N' := 80) (a0 := (80, .inl (fun _ => nI 0))) hx hb (hts (.arrayClass .int) (by decide +kernel)) 4 (ty := .int) rfl rfl id hW 20 13 ((xup_ne _ _ (by omega)).trans ((xup_ne _ _ (by omega)).trans ((xup_ne _ _ (by omega)).trans ((xup_ne _ _ (by omega)).trans ((xup_ne _ _ (by omega)).trans ((xup_ne _ _ (by omega)).trans ((xup_ne _ _ (by omega)).trans ((xup_ne _ _ (by omega)).trans ((xup_ne _ _ (by omega)).trans ((xup_ne _ _ (by omega)).trans (hA0 20 13 (by omega)))))))))))) (fun cA => by rw [vp_cell_i]; rfl) (by decide +kernel) (by decide +kernel) (by decide +kernel) (Nat.le_of_ble_eq_true rfl) (Nat.le_of_ble_eq_true rfl) dX5_init_86 fun xb10 H hxb10 hW => ?_
  refine W_stk (st' := [.ref (xb10 20 13), .ref (xb10 20 0)]) (by rw [hxb10 20 0 (by omega)]) ?_
  have hl : lv_has ls 1 [(0, .ref (xb10 20 0))] := by rw [hxb10 20 0 (by omega)]; exact hl
  rw [← hxb10 20 1 (by omega), ← hxb10 20 2 (by omega), ← hxb10 20 3 (by omega), ← hxb10 20 4 (by omega), ← hxb10 20 6 (by omega), ← hxb10 20 8 (by omega), ← hxb10 20 9 (by omega), ← hxb10 20 10 (by omega), ← hxb10 20 11 (by omega)] at hW
  refine x_putF (ty := .array (.int)) (v := .ref (xb10 20 13)) hx hb hts hin5 tyX5 tyX5_ok nmX5 hown hW 20 (0) (fs := [.int (nI (1900)), .ref (xb10 20 1), .ref (xb10 20 2), .ref (xb10 20 3), .ref (xb10 20 4), .int (nI (0)), .ref (xb10 20 6), .int (nI (0)), .ref (xb10 20 8), .ref (xb10 20 9), .ref (xb10 20 10), .ref (xb10 20 11), .int (nI (0)), .null, .null, .null, .null, .null, .null, .null, .int (nI (0))]) ((xup_ne _ _ (by omega)).trans ((xup_self _ _ _ _))) rfl 13 (by decide) (hts (.fieldLink RX5 42 RX5 "parties" "[I") (by decide +kernel)) rfl rfl hnm (by decide +kernel) rfl rfl (Nat.le_of_ble_eq_true rfl) dX5_init_88 fun H locs hW => ?_
  have hW : xW D sa A s xb10 (xup (xup (xup (xup (xup (xup (xup (xup (xup (xup (xup (G) 20 1 (.inl (D.2 4, 12, .inl (fun _ => nI 0)))) 20 2 (.inl (D.2 5, 12, .inl (fun _ => nI 0)))) 20 3 (.inl (D.2 4, 144, .inl (fun _ => nI 0)))) 20 4 (.inl (D.2 4, 12, .inl (fun _ => nI 0)))) 20 6 (.inl (D.2 4, 80, .inl (fun _ => nI 0)))) 20 8 (.inl (D.2 4, 5, .inl (fun _ => nI 0)))) 20 9 (.inl (D.2 4, 10, .inl (fun _ => nI 0)))) 20 10 (.inl (D.2 4, 10, .inl (fun _ => nI 0)))) 20 11 (.inl (D.2 4, 10, .inl (fun _ => nI 0)))) 20 13 (.inl (D.2 4, 80, .inl (fun _ => nI 0)))) 20 0 (.inr (5, [.int (nI (1900)), .ref (xb10 20 1), .ref (xb10 20 2), .ref (xb10 20 3), .ref (xb10 20 4), .int (nI (0)), .ref (xb10 20 6), .int (nI (0)), .ref (xb10 20 8), .ref (xb10 20 9), .ref (xb10 20 10), .ref (xb10 20 11), .int (nI (0)), .ref (xb10 20 13), .null, .null, .null, .null, .null, .null, .int (nI (0))]))) H locs := hW.eqG (xup_sq1 _ _ _ _ _ _ _ _).symm
  refine lv_aload_n hx hb dX5_init_91 rfl (lv_at hl 0 rfl) ?_
  refine lv_bipush (v := nI (80)) hx hb dX5_init_92 (by decide +kernel) ?_
  refine x_newa (atype := .int) (N' := 80) (a0 := (80, .inl (fun _ => nI 0))) hx hb (hts (.arrayClass .int) (by decide +kernel)) 4 (ty := .int) rfl rfl id hW 20 14 ((xup_ne _ _ (by omega)).trans ((xup_ne _ _ (by omega)).trans ((xup_ne _ _ (by omega)).trans ((xup_ne _ _ (by omega)).trans ((xup_ne _ _ (by omega)).trans ((xup_ne _ _ (by omega)).trans ((xup_ne _ _ (by omega)).trans ((xup_ne _ _ (by omega)).trans ((xup_ne _ _ (by omega)).trans ((xup_ne _ _ (by omega)).trans ((xup_ne _ _ (by omega)).trans (hA0 20 14 (by omega))))))))))))) (fun cA => by rw [vp_cell_i]; rfl) (by decide +kernel) (by decide +kernel) (by decide +kernel) (Nat.le_of_ble_eq_true rfl) (Nat.le_of_ble_eq_true rfl) dX5_init_94 fun xb11 H hxb11 hW => ?_
  refine W_stk (st' := [.ref (xb11 20 14), .ref (xb11 20 0)]) (by rw [hxb11 20 0 (by omega)]) ?_
  have hl : lv_has ls 1 [(0, .ref (xb11 20 0))] := by rw [hxb11 20 0 (by omega)]; exact hl
  rw [← hxb11 20 1 (by omega), ← hxb11 20 2 (by omega), ← hxb11 20 3 (by omega), ← hxb11 20 4 (by omega), ← hxb11 20 6 (by omega), ← hxb11 20 8 (by omega), ← hxb11 20 9 (by omega), ← hxb11 20 10 (by omega), ← hxb11 20 11 (by omega), ← hxb11 20 13 (by omega)] at hW
  refine x_putF (ty := .array (.int)) (v := .ref (xb11 20 14)) hx hb hts hin5 tyX5 tyX5_ok nmX5 hown hW 20 (0) (fs := [.int (nI (1900)), .ref (xb11 20 1), .ref (xb11 20 2), .ref (xb11 20 3), .ref (xb11 20 4), .int (nI (0)), .ref (xb11 20 6), .int (nI (0)), .ref (xb11 20 8), .ref (xb11 20 9), .ref (xb11 20 10), .ref (xb11 20 11), .int (nI (0)), .ref (xb11 20 13), .null, .null, .null, .null, .null, .null, .int (nI (0))]) ((xup_ne _ _ (by omega)).trans ((xup_self _ _ _ _))) rfl 14 (by decide) (hts (.fieldLink RX5 45 RX5 "kinds" "[I") (by decide +kernel)) rfl rfl hnm (by decide +kernel) rfl rfl (Nat.le_of_ble_eq_true rfl) dX5_init_96 fun H locs hW => ?_
  have hW : xW D sa A s xb11 (xup (xup (xup (xup (xup (xup (xup (xup (xup (xup (xup (xup (G) 20 1 (.inl (D.2 4, 12, .inl (fun _ => nI 0)))) 20 2 (.inl (D.2 5, 12, .inl (fun _ => nI 0)))) 20 3 (.inl (D.2 4, 144, .inl (fun _ => nI 0)))) 20 4 (.inl (D.2 4, 12, .inl (fun _ => nI 0)))) 20 6 (.inl (D.2 4, 80, .inl (fun _ => nI 0)))) 20 8 (.inl (D.2 4, 5, .inl (fun _ => nI 0)))) 20 9 (.inl (D.2 4, 10, .inl (fun _ => nI 0)))) 20 10 (.inl (D.2 4, 10, .inl (fun _ => nI 0)))) 20 11 (.inl (D.2 4, 10, .inl (fun _ => nI 0)))) 20 13 (.inl (D.2 4, 80, .inl (fun _ => nI 0)))) 20 14 (.inl (D.2 4, 80, .inl (fun _ => nI 0)))) 20 0 (.inr (5, [.int (nI (1900)), .ref (xb11 20 1), .ref (xb11 20 2), .ref (xb11 20 3), .ref (xb11 20 4), .int (nI (0)), .ref (xb11 20 6), .int (nI (0)), .ref (xb11 20 8), .ref (xb11 20 9), .ref (xb11 20 10), .ref (xb11 20 11), .int (nI (0)), .ref (xb11 20 13), .ref (xb11 20 14), .null, .null, .null, .null, .null, .int (nI (0))]))) H locs := hW.eqG (xup_sq1 _ _ _ _ _ _ _ _).symm
  refine lv_aload_n hx hb dX5_init_99 rfl (lv_at hl 0 rfl) ?_
  refine lv_bipush (v := nI (80)) hx hb dX5_init_100 (by decide +kernel) ?_
  refine x_newa (atype := .int) (N' := 80) (a0 := (80, .inl (fun _ => nI 0))) hx hb (hts (.arrayClass .int) (by decide +kernel)) 4 (ty := .int) rfl rfl id hW 20 15 ((xup_ne _ _ (by omega)).trans ((xup_ne _ _ (by omega)).trans ((xup_ne _ _ (by omega)).trans ((xup_ne _ _ (by omega)).trans ((xup_ne _ _ (by omega)).trans ((xup_ne _ _ (by omega)).trans ((xup_ne _ _ (by omega)).trans ((xup_ne _ _ (by omega)).trans ((xup_ne _ _ (by omega)).trans ((xup_ne _ _ (by omega)).trans ((xup_ne _ _ (by omega)).trans ((xup_ne _ _ (by omega)).trans (hA0 20 15 (by omega)))))))))))))) (fun cA => by rw [vp_cell_i]; rfl) (by decide +kernel) (by decide +kernel) (by decide +kernel) (Nat.le_of_ble_eq_true rfl) (Nat.le_of_ble_eq_true rfl) dX5_init_102 fun xb12 H hxb12 hW => ?_
  refine W_stk (st' := [.ref (xb12 20 15), .ref (xb12 20 0)]) (by rw [hxb12 20 0 (by omega)]) ?_
  have hl : lv_has ls 1 [(0, .ref (xb12 20 0))] := by rw [hxb12 20 0 (by omega)]; exact hl
  rw [← hxb12 20 1 (by omega), ← hxb12 20 2 (by omega), ← hxb12 20 3 (by omega), ← hxb12 20 4 (by omega), ← hxb12 20 6 (by omega), ← hxb12 20 8 (by omega), ← hxb12 20 9 (by omega), ← hxb12 20 10 (by omega), ← hxb12 20 11 (by omega), ← hxb12 20 13 (by omega), ← hxb12 20 14 (by omega)] at hW
  refine x_putF (ty := .array (.int)) (v := .ref (xb12 20 15)) hx hb hts hin5 tyX5 tyX5_ok nmX5 hown hW 20 (0) (fs := [.int (nI (1900)), .ref (xb12 20 1), .ref (xb12 20 2), .ref (xb12 20 3), .ref (xb12 20 4), .int (nI (0)), .ref (xb12 20 6), .int (nI (0)), .ref (xb12 20 8), .ref (xb12 20 9), .ref (xb12 20 10), .ref (xb12 20 11), .int (nI (0)), .ref (xb12 20 13), .ref (xb12 20 14), .null, .null, .null, .null, .null, .int (nI (0))]) ((xup_ne _ _ (by omega)).trans ((xup_self _ _ _ _))) rfl 15 (by decide) (hts (.fieldLink RX5 48 RX5 "lands" "[I") (by decide +kernel)) rfl rfl hnm (by decide +kernel) rfl rfl (Nat.le_of_ble_eq_true rfl) dX5_init_104 fun H locs hW => ?_
  have hW : xW D sa A s xb12 (xup (xup (xup (xup (xup (xup (xup (xup (xup (xup (xup (xup (xup (G) 20 1 (.inl (D.2 4, 12, .inl (fun _ => nI 0)))) 20 2 (.inl (D.2 5, 12, .inl (fun _ => nI 0)))) 20 3 (.inl (D.2 4, 144, .inl (fun _ => nI 0)))) 20 4 (.inl (D.2 4, 12, .inl (fun _ => nI 0)))) 20 6 (.inl (D.2 4, 80, .inl (fun _ => nI 0)))) 20 8 (.inl (D.2 4, 5, .inl (fun _ => nI 0)))) 20 9 (.inl (D.2 4, 10, .inl (fun _ => nI 0)))) 20 10 (.inl (D.2 4, 10, .inl (fun _ => nI 0)))) 20 11 (.inl (D.2 4, 10, .inl (fun _ => nI 0)))) 20 13 (.inl (D.2 4, 80, .inl (fun _ => nI 0)))) 20 14 (.inl (D.2 4, 80, .inl (fun _ => nI 0)))) 20 15 (.inl (D.2 4, 80, .inl (fun _ => nI 0)))) 20 0 (.inr (5, [.int (nI (1900)), .ref (xb12 20 1), .ref (xb12 20 2), .ref (xb12 20 3), .ref (xb12 20 4), .int (nI (0)), .ref (xb12 20 6), .int (nI (0)), .ref (xb12 20 8), .ref (xb12 20 9), .ref (xb12 20 10), .ref (xb12 20 11), .int (nI (0)), .ref (xb12 20 13), .ref (xb12 20 14), .ref (xb12 20 15), .null, .null, .null, .null, .int (nI (0))]))) H locs := hW.eqG (xup_sq1 _ _ _ _ _ _ _ _).symm
  refine lv_aload_n hx hb dX5_init_107 rfl (lv_at hl 0 rfl) ?_
  refine lv_bipush (v := nI (80)) hx hb dX5_init_108 (by decide +kernel) ?_
  refine x_newa (atype := .int) (N' := 80) (a0 := (80, .inl (fun _ => nI 0))) hx hb (hts (.arrayClass .int) (by decide +kernel)) 4 (ty := .int) rfl rfl id hW 20 16 ((xup_ne _ _ (by omega)).trans ((xup_ne _ _ (by omega)).trans ((xup_ne _ _ (by omega)).trans ((xup_ne _ _ (by omega)).trans ((xup_ne _ _ (by omega)).trans ((xup_ne _ _ (by omega)).trans ((xup_ne _ _ (by omega)).trans ((xup_ne _ _ (by omega)).trans ((xup_ne _ _ (by omega)).trans ((xup_ne _ _ (by omega)).trans ((xup_ne _ _ (by omega)).trans ((xup_ne _ _ (by omega)).trans ((xup_ne _ _ (by omega)).trans (hA0 20 16 (by omega))))))))))))))) (fun cA => by rw [vp_cell_i]; rfl) (by decide +kernel) (by decide +kernel) (by decide +kernel) (Nat.le_of_ble_eq_true rfl) (Nat.le_of_ble_eq_true rfl) dX5_init_110 fun xb13 H hxb13 hW => ?_
  refine W_stk (st' := [.ref (xb13 20 16), .ref (xb13 20 0)]) (by rw [hxb13 20 0 (by omega)]) ?_
  have hl : lv_has ls 1 [(0, .ref (xb13 20 0))] := by rw [hxb13 20 0 (by omega)]; exact hl
  rw [← hxb13 20 1 (by omega), ← hxb13 20 2 (by omega), ← hxb13 20 3 (by omega), ← hxb13 20 4 (by omega), ← hxb13 20 6 (by omega), ← hxb13 20 8 (by omega), ← hxb13 20 9 (by omega), ← hxb13 20 10 (by omega), ← hxb13 20 11 (by omega), ← hxb13 20 13 (by omega), ← hxb13 20 14 (by omega), ← hxb13 20 15 (by omega)] at hW
  refine x_putF (ty := .array (.int)) (v := .ref (xb13 20 16)) hx hb hts hin5 tyX5 tyX5_ok nmX5 hown hW 20 (0) (fs := [.int (nI (1900)), .ref (xb13 20 1), .ref (xb13 20 2), .ref (xb13 20 3), .ref (xb13 20 4), .int (nI (0)), .ref (xb13 20 6), .int (nI (0)), .ref (xb13 20 8), .ref (xb13 20 9), .ref (xb13 20 10), .ref (xb13 20 11), .int (nI (0)), .ref (xb13 20 13), .ref (xb13 20 14), .ref (xb13 20 15), .null, .null, .null, .null, .int (nI (0))]) ((xup_ne _ _ (by omega)).trans ((xup_self _ _ _ _))) rfl 16 (by decide) (hts (.fieldLink RX5 51 RX5 "years" "[I") (by decide +kernel)) rfl rfl hnm (by decide +kernel) rfl rfl (Nat.le_of_ble_eq_true rfl) dX5_init_112 fun H locs hW => ?_
  have hW : xW D sa A s xb13 (xup (xup (xup (xup (xup (xup (xup (xup (xup (xup (xup (xup (xup (xup (G) 20 1 (.inl (D.2 4, 12, .inl (fun _ => nI 0)))) 20 2 (.inl (D.2 5, 12, .inl (fun _ => nI 0)))) 20 3 (.inl (D.2 4, 144, .inl (fun _ => nI 0)))) 20 4 (.inl (D.2 4, 12, .inl (fun _ => nI 0)))) 20 6 (.inl (D.2 4, 80, .inl (fun _ => nI 0)))) 20 8 (.inl (D.2 4, 5, .inl (fun _ => nI 0)))) 20 9 (.inl (D.2 4, 10, .inl (fun _ => nI 0)))) 20 10 (.inl (D.2 4, 10, .inl (fun _ => nI 0)))) 20 11 (.inl (D.2 4, 10, .inl (fun _ => nI 0)))) 20 13 (.inl (D.2 4, 80, .inl (fun _ => nI 0)))) 20 14 (.inl (D.2 4, 80, .inl (fun _ => nI 0)))) 20 15 (.inl (D.2 4, 80, .inl (fun _ => nI 0)))) 20 16 (.inl (D.2 4, 80, .inl (fun _ => nI 0)))) 20 0 (.inr (5, [.int (nI (1900)), .ref (xb13 20 1), .ref (xb13 20 2), .ref (xb13 20 3), .ref (xb13 20 4), .int (nI (0)), .ref (xb13 20 6), .int (nI (0)), .ref (xb13 20 8), .ref (xb13 20 9), .ref (xb13 20 10), .ref (xb13 20 11), .int (nI (0)), .ref (xb13 20 13), .ref (xb13 20 14), .ref (xb13 20 15), .ref (xb13 20 16), .null, .null, .null, .int (nI (0))]))) H locs := hW.eqG (xup_sq1 _ _ _ _ _ _ _ _).symm
  refine lv_aload_n hx hb dX5_init_115 rfl (lv_at hl 0 rfl) ?_
  refine lv_bipush (v := nI (80)) hx hb dX5_init_116 (by decide +kernel) ?_
  refine x_newa (atype := .boolean) (N' := 80) (a0 := (80, .inl (fun _ => nI 0))) hx hb (hts (.arrayClass .boolean) (by decide +kernel)) 5 (ty := .boolean) rfl rfl id hW 20 17 ((xup_ne _ _ (by omega)).trans ((xup_ne _ _ (by omega)).trans ((xup_ne _ _ (by omega)).trans ((xup_ne _ _ (by omega)).trans ((xup_ne _ _ (by omega)).trans ((xup_ne _ _ (by omega)).trans ((xup_ne _ _ (by omega)).trans ((xup_ne _ _ (by omega)).trans ((xup_ne _ _ (by omega)).trans ((xup_ne _ _ (by omega)).trans ((xup_ne _ _ (by omega)).trans ((xup_ne _ _ (by omega)).trans ((xup_ne _ _ (by omega)).trans ((xup_ne _ _ (by omega)).trans (hA0 20 17 (by omega)))))))))))))))) (fun cA => by rw [vp_cell_i]; rfl) (by decide +kernel) (by decide +kernel) (by decide +kernel) (Nat.le_of_ble_eq_true rfl) (Nat.le_of_ble_eq_true rfl) dX5_init_118 fun xb14 H hxb14 hW => ?_
  refine W_stk (st' := [.ref (xb14 20 17), .ref (xb14 20 0)]) (by rw [hxb14 20 0 (by omega)]) ?_
  have hl : lv_has ls 1 [(0, .ref (xb14 20 0))] := by rw [hxb14 20 0 (by omega)]; exact hl
  rw [← hxb14 20 1 (by omega), ← hxb14 20 2 (by omega), ← hxb14 20 3 (by omega), ← hxb14 20 4 (by omega), ← hxb14 20 6 (by omega), ← hxb14 20 8 (by omega), ← hxb14 20 9 (by omega), ← hxb14 20 10 (by omega), ← hxb14 20 11 (by omega), ← hxb14 20 13 (by omega), ← hxb14 20 14 (by omega), ← hxb14 20 15 (by omega), ← hxb14 20 16 (by omega)] at hW
  refine x_putF (ty := .array (.boolean)) (v := .ref (xb14 20 17)) hx hb hts hin5 tyX5 tyX5_ok nmX5 hown hW 20 (0) (fs := [.int (nI (1900)), .ref (xb14 20 1), .ref (xb14 20 2), .ref (xb14 20 3), .ref (xb14 20 4), .int (nI (0)), .ref (xb14 20 6), .int (nI (0)), .ref (xb14 20 8), .ref (xb14 20 9), .ref (xb14 20 10), .ref (xb14 20 11), .int (nI (0)), .ref (xb14 20 13), .ref (xb14 20 14), .ref (xb14 20 15), .ref (xb14 20 16), .null, .null, .null, .int (nI (0))]) ((xup_ne _ _ (by omega)).trans ((xup_self _ _ _ _))) rfl 17 (by decide) (hts (.fieldLink RX5 54 RX5 "rebutted" "[Z") (by decide +kernel)) rfl rfl hnm (by decide +kernel) rfl rfl (Nat.le_of_ble_eq_true rfl) dX5_init_120 fun H locs hW => ?_
  have hW : xW D sa A s xb14 (xup (xup (xup (xup (xup (xup (xup (xup (xup (xup (xup (xup (xup (xup (xup (G) 20 1 (.inl (D.2 4, 12, .inl (fun _ => nI 0)))) 20 2 (.inl (D.2 5, 12, .inl (fun _ => nI 0)))) 20 3 (.inl (D.2 4, 144, .inl (fun _ => nI 0)))) 20 4 (.inl (D.2 4, 12, .inl (fun _ => nI 0)))) 20 6 (.inl (D.2 4, 80, .inl (fun _ => nI 0)))) 20 8 (.inl (D.2 4, 5, .inl (fun _ => nI 0)))) 20 9 (.inl (D.2 4, 10, .inl (fun _ => nI 0)))) 20 10 (.inl (D.2 4, 10, .inl (fun _ => nI 0)))) 20 11 (.inl (D.2 4, 10, .inl (fun _ => nI 0)))) 20 13 (.inl (D.2 4, 80, .inl (fun _ => nI 0)))) 20 14 (.inl (D.2 4, 80, .inl (fun _ => nI 0)))) 20 15 (.inl (D.2 4, 80, .inl (fun _ => nI 0)))) 20 16 (.inl (D.2 4, 80, .inl (fun _ => nI 0)))) 20 17 (.inl (D.2 5, 80, .inl (fun _ => nI 0)))) 20 0 (.inr (5, [.int (nI (1900)), .ref (xb14 20 1), .ref (xb14 20 2), .ref (xb14 20 3), .ref (xb14 20 4), .int (nI (0)), .ref (xb14 20 6), .int (nI (0)), .ref (xb14 20 8), .ref (xb14 20 9), .ref (xb14 20 10), .ref (xb14 20 11), .int (nI (0)), .ref (xb14 20 13), .ref (xb14 20 14), .ref (xb14 20 15), .ref (xb14 20 16), .ref (xb14 20 17), .null, .null, .int (nI (0))]))) H locs := hW.eqG (xup_sq1 _ _ _ _ _ _ _ _).symm
  refine lv_aload_n hx hb dX5_init_123 rfl (lv_at hl 0 rfl) ?_
  refine lv_bipush (v := nI (80)) hx hb dX5_init_124 (by decide +kernel) ?_
  refine x_newa (atype := .boolean) (N' := 80) (a0 := (80, .inl (fun _ => nI 0))) hx hb (hts (.arrayClass .boolean) (by decide +kernel)) 5 (ty := .boolean) rfl rfl id hW 20 18 ((xup_ne _ _ (by omega)).trans ((xup_ne _ _ (by omega)).trans ((xup_ne _ _ (by omega)).trans ((xup_ne _ _ (by omega)).trans ((xup_ne _ _ (by omega)).trans ((xup_ne _ _ (by omega)).trans ((xup_ne _ _ (by omega)).trans ((xup_ne _ _ (by omega)).trans ((xup_ne _ _ (by omega)).trans ((xup_ne _ _ (by omega)).trans ((xup_ne _ _ (by omega)).trans ((xup_ne _ _ (by omega)).trans ((xup_ne _ _ (by omega)).trans ((xup_ne _ _ (by omega)).trans ((xup_ne _ _ (by omega)).trans (hA0 20 18 (by omega))))))))))))))))) (fun cA => by rw [vp_cell_i]; rfl) (by decide +kernel) (by decide +kernel) (by decide +kernel) (Nat.le_of_ble_eq_true rfl) (Nat.le_of_ble_eq_true rfl) dX5_init_126 fun xb15 H hxb15 hW => ?_
  refine W_stk (st' := [.ref (xb15 20 18), .ref (xb15 20 0)]) (by rw [hxb15 20 0 (by omega)]) ?_
  have hl : lv_has ls 1 [(0, .ref (xb15 20 0))] := by rw [hxb15 20 0 (by omega)]; exact hl
  rw [← hxb15 20 1 (by omega), ← hxb15 20 2 (by omega), ← hxb15 20 3 (by omega), ← hxb15 20 4 (by omega), ← hxb15 20 6 (by omega), ← hxb15 20 8 (by omega), ← hxb15 20 9 (by omega), ← hxb15 20 10 (by omega), ← hxb15 20 11 (by omega), ← hxb15 20 13 (by omega), ← hxb15 20 14 (by omega), ← hxb15 20 15 (by omega), ← hxb15 20 16 (by omega), ← hxb15 20 17 (by omega)] at hW
  refine x_putF (ty := .array (.boolean)) (v := .ref (xb15 20 18)) hx hb hts hin5 tyX5 tyX5_ok nmX5 hown hW 20 (0) (fs := [.int (nI (1900)), .ref (xb15 20 1), .ref (xb15 20 2), .ref (xb15 20 3), .ref (xb15 20 4), .int (nI (0)), .ref (xb15 20 6), .int (nI (0)), .ref (xb15 20 8), .ref (xb15 20 9), .ref (xb15 20 10), .ref (xb15 20 11), .int (nI (0)), .ref (xb15 20 13), .ref (xb15 20 14), .ref (xb15 20 15), .ref (xb15 20 16), .ref (xb15 20 17), .null, .null, .int (nI (0))]) ((xup_ne _ _ (by omega)).trans ((xup_self _ _ _ _))) rfl 18 (by decide) (hts (.fieldLink RX5 57 RX5 "settled" "[Z") (by decide +kernel)) rfl rfl hnm (by decide +kernel) rfl rfl (Nat.le_of_ble_eq_true rfl) dX5_init_128 fun H locs hW => ?_
  have hW : xW D sa A s xb15 (xup (xup (xup (xup (xup (xup (xup (xup (xup (xup (xup (xup (xup (xup (xup (xup (G) 20 1 (.inl (D.2 4, 12, .inl (fun _ => nI 0)))) 20 2 (.inl (D.2 5, 12, .inl (fun _ => nI 0)))) 20 3 (.inl (D.2 4, 144, .inl (fun _ => nI 0)))) 20 4 (.inl (D.2 4, 12, .inl (fun _ => nI 0)))) 20 6 (.inl (D.2 4, 80, .inl (fun _ => nI 0)))) 20 8 (.inl (D.2 4, 5, .inl (fun _ => nI 0)))) 20 9 (.inl (D.2 4, 10, .inl (fun _ => nI 0)))) 20 10 (.inl (D.2 4, 10, .inl (fun _ => nI 0)))) 20 11 (.inl (D.2 4, 10, .inl (fun _ => nI 0)))) 20 13 (.inl (D.2 4, 80, .inl (fun _ => nI 0)))) 20 14 (.inl (D.2 4, 80, .inl (fun _ => nI 0)))) 20 15 (.inl (D.2 4, 80, .inl (fun _ => nI 0)))) 20 16 (.inl (D.2 4, 80, .inl (fun _ => nI 0)))) 20 17 (.inl (D.2 5, 80, .inl (fun _ => nI 0)))) 20 18 (.inl (D.2 5, 80, .inl (fun _ => nI 0)))) 20 0 (.inr (5, [.int (nI (1900)), .ref (xb15 20 1), .ref (xb15 20 2), .ref (xb15 20 3), .ref (xb15 20 4), .int (nI (0)), .ref (xb15 20 6), .int (nI (0)), .ref (xb15 20 8), .ref (xb15 20 9), .ref (xb15 20 10), .ref (xb15 20 11), .int (nI (0)), .ref (xb15 20 13), .ref (xb15 20 14), .ref (xb15 20 15), .ref (xb15 20 16), .ref (xb15 20 17), .ref (xb15 20 18), .null, .int (nI (0))]))) H locs := hW.eqG (xup_sq1 _ _ _ _ _ _ _ _).symm
  refine lv_aload_n hx hb dX5_init_131 rfl (lv_at hl 0 rfl) ?_
  refine lv_bipush (v := nI (8)) hx hb dX5_init_132 (by decide +kernel) ?_
  refine x_newa (atype := .int) (N' := 8) (a0 := (8, .inl (fun _ => nI 0))) hx hb (hts (.arrayClass .int) (by decide +kernel)) 4 (ty := .int) rfl rfl id hW 20 19 ((xup_ne _ _ (by omega)).trans ((xup_ne _ _ (by omega)).trans ((xup_ne _ _ (by omega)).trans ((xup_ne _ _ (by omega)).trans ((xup_ne _ _ (by omega)).trans ((xup_ne _ _ (by omega)).trans ((xup_ne _ _ (by omega)).trans ((xup_ne _ _ (by omega)).trans ((xup_ne _ _ (by omega)).trans ((xup_ne _ _ (by omega)).trans ((xup_ne _ _ (by omega)).trans ((xup_ne _ _ (by omega)).trans ((xup_ne _ _ (by omega)).trans ((xup_ne _ _ (by omega)).trans ((xup_ne _ _ (by omega)).trans ((xup_ne _ _ (by omega)).trans (hA0 20 19 (by omega)))))))))))))))))) (fun cA => by rw [vp_cell_i]; rfl) (by decide +kernel) (by decide +kernel) (by decide +kernel) (Nat.le_of_ble_eq_true rfl) (Nat.le_of_ble_eq_true rfl) dX5_init_134 fun xb16 H hxb16 hW => ?_
  refine W_stk (st' := [.ref (xb16 20 19), .ref (xb16 20 0)]) (by rw [hxb16 20 0 (by omega)]) ?_
  have hl : lv_has ls 1 [(0, .ref (xb16 20 0))] := by rw [hxb16 20 0 (by omega)]; exact hl
  rw [← hxb16 20 1 (by omega), ← hxb16 20 2 (by omega), ← hxb16 20 3 (by omega), ← hxb16 20 4 (by omega), ← hxb16 20 6 (by omega), ← hxb16 20 8 (by omega), ← hxb16 20 9 (by omega), ← hxb16 20 10 (by omega), ← hxb16 20 11 (by omega), ← hxb16 20 13 (by omega), ← hxb16 20 14 (by omega), ← hxb16 20 15 (by omega), ← hxb16 20 16 (by omega), ← hxb16 20 17 (by omega), ← hxb16 20 18 (by omega)] at hW
  refine x_putF (ty := .array (.int)) (v := .ref (xb16 20 19)) hx hb hts hin5 tyX5 tyX5_ok nmX5 hown hW 20 (0) (fs := [.int (nI (1900)), .ref (xb16 20 1), .ref (xb16 20 2), .ref (xb16 20 3), .ref (xb16 20 4), .int (nI (0)), .ref (xb16 20 6), .int (nI (0)), .ref (xb16 20 8), .ref (xb16 20 9), .ref (xb16 20 10), .ref (xb16 20 11), .int (nI (0)), .ref (xb16 20 13), .ref (xb16 20 14), .ref (xb16 20 15), .ref (xb16 20 16), .ref (xb16 20 17), .ref (xb16 20 18), .null, .int (nI (0))]) ((xup_ne _ _ (by omega)).trans ((xup_self _ _ _ _))) rfl 19 (by decide) (hts (.fieldLink RX5 60 RX5 "order" "[I") (by decide +kernel)) rfl rfl hnm (by decide +kernel) rfl rfl (Nat.le_of_ble_eq_true rfl) dX5_init_136 fun H locs hW => ?_
  have hW : xW D sa A s xb16 (xup (xup (xup (xup (xup (xup (xup (xup (xup (xup (xup (xup (xup (xup (xup (xup (xup (G) 20 1 (.inl (D.2 4, 12, .inl (fun _ => nI 0)))) 20 2 (.inl (D.2 5, 12, .inl (fun _ => nI 0)))) 20 3 (.inl (D.2 4, 144, .inl (fun _ => nI 0)))) 20 4 (.inl (D.2 4, 12, .inl (fun _ => nI 0)))) 20 6 (.inl (D.2 4, 80, .inl (fun _ => nI 0)))) 20 8 (.inl (D.2 4, 5, .inl (fun _ => nI 0)))) 20 9 (.inl (D.2 4, 10, .inl (fun _ => nI 0)))) 20 10 (.inl (D.2 4, 10, .inl (fun _ => nI 0)))) 20 11 (.inl (D.2 4, 10, .inl (fun _ => nI 0)))) 20 13 (.inl (D.2 4, 80, .inl (fun _ => nI 0)))) 20 14 (.inl (D.2 4, 80, .inl (fun _ => nI 0)))) 20 15 (.inl (D.2 4, 80, .inl (fun _ => nI 0)))) 20 16 (.inl (D.2 4, 80, .inl (fun _ => nI 0)))) 20 17 (.inl (D.2 5, 80, .inl (fun _ => nI 0)))) 20 18 (.inl (D.2 5, 80, .inl (fun _ => nI 0)))) 20 19 (.inl (D.2 4, 8, .inl (fun _ => nI 0)))) 20 0 (.inr (5, [.int (nI (1900)), .ref (xb16 20 1), .ref (xb16 20 2), .ref (xb16 20 3), .ref (xb16 20 4), .int (nI (0)), .ref (xb16 20 6), .int (nI (0)), .ref (xb16 20 8), .ref (xb16 20 9), .ref (xb16 20 10), .ref (xb16 20 11), .int (nI (0)), .ref (xb16 20 13), .ref (xb16 20 14), .ref (xb16 20 15), .ref (xb16 20 16), .ref (xb16 20 17), .ref (xb16 20 18), .ref (xb16 20 19), .int (nI (0))]))) H locs := hW.eqG (xup_sq1 _ _ _ _ _ _ _ _).symm
  exact xe_v hx hb hr hlocks (hW.eqG (m0_eq G D xb16 hA0)) ⟨xb16, fun k_ i_ hk_ => (hxb16 k_ i_ (by omega)).trans ((hxb15 k_ i_ (by omega)).trans ((hxb14 k_ i_ (by omega)).trans ((hxb13 k_ i_ (by omega)).trans ((hxb12 k_ i_ (by omega)).trans ((hxb11 k_ i_ (by omega)).trans ((hxb10 k_ i_ (by omega)).trans ((hxb9 k_ i_ (by omega)).trans ((hxb8 k_ i_ (by omega)).trans ((hxb7 k_ i_ (by omega)).trans ((hxb6 k_ i_ (by omega)).trans ((hxb5 k_ i_ (by omega)).trans ((hxb4 k_ i_ (by omega)).trans ((hxb3 k_ i_ (by omega)).trans ((hxb2 k_ i_ (by omega)).trans (hxb1 k_ i_ (by omega)))))))))))))))), rfl⟩ (Nat.le_of_ble_eq_true rfl) (Nat.le_of_ble_eq_true rfl) dX5_init_139
