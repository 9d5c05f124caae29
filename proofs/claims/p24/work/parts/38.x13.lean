/-! THE FRESH OBJECTS -/
def sg0 : Sg := fun j i => if j = 0 ∧ i = 0 then 1900 else 0
def tg0 : Tg := fun _ _ => none
theorem sg0_0 : sg0 0 0 = 1900 := rfl
theorem sg0_n {j i : Nat} (h : j ≠ 0) : sg0 j i = 0 := if_neg (fun h2 => h h2.1)
theorem sg0_Gd : Gd sg0 := by
  refine ⟨fun j i => ?_, ⟨?_, ?_, ?_, ?_, ?_⟩, fun i hi => ?_, fun i _ => ⟨sg0_n (by decide), sg0_n (by decide)⟩, fun i hi => ?_, fun i _ => sg0_n (by decide), fun i k _ _ => ⟨sg0_n (by decide), sg0_n (by decide)⟩, fun i => ?_, fun i => ?_⟩
  · unfold sg0; split <;> omega
  · rw [sg0_n (by decide)]; omega
  · rw [sg0_n (by decide)]; omega
  · rw [sg0_n (by decide)]; omega
  · rw [sg0_0]; omega
  · rw [sg0_0]; omega
  · rw [sg0_n (by decide)] at hi; omega
  · rw [sg0_n (by decide)] at hi; omega
  · rw [sg0_n (by decide)]; omega
  · rw [sg0_n (by decide)]; omega
theorem sg0_LL : LL sg0 tg0 := fun i hi => by rw [sg0_n (by decide)] at hi; omega
theorem sg0_TE : TE sg0 tg0 := fun i p hi _ => by rw [sg0_n (by decide)] at hi; omega
theorem x0_eq (G : xG) (D : xD) (xa : xA) (hA0 : ∀ k i : Nat, k < 20 ∧ ¬ (k = 0 ∧ i = 0) → G k i = none) : xGs G D xa sg0 tg0 = xup (xup (xup (xup (xup G 1 0 (rfs (D.2 0) 12 (fun _ => none))) 2 0 (rfs (D.2 1) 20 (fun _ => none))) 3 0 (.inl (D.2 4, 5, .inl (fun _ => nI 0)))) 4 0 (rfs (D.2 2) 10 (fun _ => none))) 0 0 (.inr (4, [.ref (xa 1 0), .int (nI 0), .ref (xa 2 0), .int (nI 0), .ref (xa 3 0), .int (nI 1900), .ref (xa 4 0), .int (nI 0)])) := by
  funext k i
  by_cases h0 : k = 0 ∧ i = 0
  · obtain ⟨rfl, rfl⟩ := h0
    rw [xup_self]; rfl
  rw [xup_ne _ _ h0]
  by_cases h4 : k = 4 ∧ i = 0
  · obtain ⟨rfl, rfl⟩ := h4
    rw [xup_self, rfs_none (c := sg0 12 0) (f := fun j => xa 13 j) (sg0_n (by decide))]; rfl
  rw [xup_ne _ _ h4]
  by_cases h3 : k = 3 ∧ i = 0
  · obtain ⟨rfl, rfl⟩ := h3
    rw [xup_self]; rfl
  rw [xup_ne _ _ h3]
  by_cases h2 : k = 2 ∧ i = 0
  · obtain ⟨rfl, rfl⟩ := h2
    rw [xup_self, rfs_none (c := sg0 7 0) (f := fun j => xa 12 j) (sg0_n (by decide))]; rfl
  rw [xup_ne _ _ h2]
  by_cases h1 : k = 1 ∧ i = 0
  · obtain ⟨rfl, rfl⟩ := h1
    rw [xup_self, rfs_none (c := sg0 5 0) (f := fun j => xa 10 j) (sg0_n (by decide))]; rfl
  rw [xup_ne _ _ h1]
  unfold xGs
  split
  case isFalse => rfl
  case isTrue hk =>
    rw [hA0 k i ⟨hk, h0⟩]
    unfold xE
    split
    · rw [if_neg (fun h => h0 ⟨rfl, h⟩)]
    · rw [if_neg (fun h => h1 ⟨rfl, h⟩)]
    · rw [if_neg (fun h => h2 ⟨rfl, h⟩)]
    · rw [if_neg (fun h => h3 ⟨rfl, h⟩)]
    · rw [if_neg (fun h => h4 ⟨rfl, h⟩)]
    · rw [if_neg (by rw [sg0_n (by decide)]; omega)]
    · rw [if_neg (by rw [sg0_n (by decide)]; omega)]
    · rw [if_neg (by rw [sg0_n (by decide)]; omega)]
    · rw [if_neg (by rw [sg0_n (by decide)]; omega)]
    · rw [if_neg (by rw [sg0_n (by decide)]; omega)]
    · rw [if_neg (by rw [sg0_n (j := 12) (by decide)]; omega)]
    · rfl

set_option maxHeartbeats 4000000 in
set_option maxRecDepth 100000 in
theorem c_X4_init (l : Launch) (D : xD) (sa : Nat → Nat) (xa : xA) (G : xG) (hG0 : G 0 0 = some (.inr (4, [.null, .int (nI 0), .null, .int (nI 0), .null, .int (nI 0), .null, .int (nI 0)]))) (hA0 : ∀ k_ i_ : Nat, k_ < 20 ∧ ¬ (k_ = 0 ∧ i_ = 0) → G k_ i_ = none) : xCv l yX4_init wsX4_init ({ frames := 10, cells := 4, slots := 47, locals := 200 } : Room) D sa xa G [.ref (xa 0 0)] (fun u => ∃ xb1 : xA, (∀ k_ i_ : Nat, (k_ = 0 ∨ 5 ≤ k_) → xb1 k_ i_ = xa k_ i_) ∧ u = (xb1, xGs G D xb1 sg0 tg0)) 4 47 := by
  intro sz
  refine Met.ofW (cc := cX4_init) (maxL := 1) (ret := none) (by decide +kernel) rfl ?_
  intro p e s m args below meth c s₁ B hml hv
  obtain ⟨rfl, hsz, hv2⟩ := hv
  subst hsz
  have hx := B.exec
  have hb := B.bytes
  have hr := B.returns
  have hts := atoms_spec (ws := wsX4_init) B.pre
  have hown : s.vm.findClass RX4 = some m.cls := findClass_of_methodNamed B.named
  have hlocks := B.notSynchronized
  have hin4 : ∀ w ∈ wsX40, w ∈ wsX4_init := by decide +kernel
  have hW := xW.start (s := s) ⟨rfl, hv2⟩
  clear hv2
  generalize xAw xa (G) s.heap.size = A at hW ⊢
  have hl := lv_entry ([.ref (xa 0 0)]) (n := 1) (Nat.le_of_ble_eq_true rfl)
  rw [lg_entry_eq]
  generalize (lg_sl ([.ref (xa 0 0)]) ++ List.replicate (1 - (lg_sl ([.ref (xa 0 0)])).length) Slot.unset).toArray = ls at hl ⊢
  have hl : lv_has ls 1 [(0, .ref (xa 0 0))] := hl
  have hnm : meth.name = "<init>" := (name_of_methodNamed B.named B.method).1
  refine lv_aload_n hx hb dX4_init_0 rfl (lv_at hl 0 rfl) ?_
  refine W.objInit hx hb hown (hts (.methodLink RX4 1 objectInit) (by decide +kernel)) (hts (.instanceMethod objectInit) (by decide +kernel)) (hts (.code objectInit ⟨#[0xb1]⟩ 1 none) (by decide +kernel)) rfl (hl.1.trans hml.symm) rfl dX4_init_1 (Nat.le_of_ble_eq_true rfl) (Nat.le_of_ble_eq_true rfl) ?_
  show W _ _ _ _ _ _ _ _ _ _ _ _ _ _ _ (F0 _ 4 ls [])
  refine lv_aload_n hx hb dX4_init_4 rfl (lv_at hl 0 rfl) ?_
  refine lv_bipush (v := nI (12)) hx hb dX4_init_5 (by decide +kernel) ?_
  refine x_newq (N' := 12) hx hb hown (hts (.classLink RX4 9 RX1) (by decide +kernel)) (hW.AO (by decide)) hW 1 0 0 rfl (hA0 1 0 (by omega)) (by decide +kernel) (by decide +kernel) (by omega) (Nat.le_of_ble_eq_true rfl) (Nat.le_of_ble_eq_true rfl) dX4_init_7 fun xb1 H hxb1 hW => ?_
  refine W_stk (st' := [.ref (xb1 1 0), .ref (xb1 0 0)]) (by rw [hxb1 0 0 (by omega)]) ?_
  have hl : lv_has ls 1 [(0, .ref (xb1 0 0))] := by rw [hxb1 0 0 (by omega)]; exact hl
  refine x_putF (ty := .array (.object "Restitutory$Person")) (v := .ref (xb1 1 0)) hx hb hts hin4 tyX4 tyX4_ok nmX4 hown hW 0 (0) (fs := [.null, .int (nI (0)), .null, .int (nI (0)), .null, .int (nI (0)), .null, .int (nI (0))]) ((xup_ne _ _ (by omega)).trans (hG0)) rfl 0 (by decide) (hts (.fieldLink RX4 11 RX4 "people" "[LRestitutory$Person;") (by decide +kernel)) rfl rfl hnm (by decide +kernel) rfl rfl (Nat.le_of_ble_eq_true rfl) dX4_init_10 fun H locs hW => ?_
  have hW : xW D sa A s xb1 (xup (xup (G) 1 0 (rfs (D.2 0) 12 (fun _ => none))) 0 0 (.inr (4, [.ref (xb1 1 0), .int (nI (0)), .null, .int (nI (0)), .null, .int (nI (0)), .null, .int (nI (0))]))) H locs := hW
  refine lv_aload_n hx hb dX4_init_13 rfl (lv_at hl 0 rfl) ?_
  refine lv_bipush (v := nI (20)) hx hb dX4_init_14 (by decide +kernel) ?_
  refine x_newq (N' := 20) hx hb hown (hts (.classLink RX4 15 RX0) (by decide +kernel)) (hW.AO (by decide)) hW 2 0 1 rfl ((xup_ne _ _ (by omega)).trans ((xup_ne _ _ (by omega)).trans (hA0 2 0 (by omega)))) (by decide +kernel) (by decide +kernel) (by omega) (Nat.le_of_ble_eq_true rfl) (Nat.le_of_ble_eq_true rfl) dX4_init_16 fun xb2 H hxb2 hW => ?_
  refine W_stk (st' := [.ref (xb2 2 0), .ref (xb2 0 0)]) (by rw [hxb2 0 0 (by omega)]) ?_
  have hl : lv_has ls 1 [(0, .ref (xb2 0 0))] := by rw [hxb2 0 0 (by omega)]; exact hl
  rw [← hxb2 1 0 (by omega)] at hW
  refine x_putF (ty := .array (.object "Restitutory$Persecution")) (v := .ref (xb2 2 0)) hx hb hts hin4 tyX4 tyX4_ok nmX4 hown hW 0 (0) (fs := [.ref (xb2 1 0), .int (nI (0)), .null, .int (nI (0)), .null, .int (nI (0)), .null, .int (nI (0))]) ((xup_ne _ _ (by omega)).trans ((xup_self _ _ _ _))) rfl 2 (by decide) (hts (.fieldLink RX4 17 RX4 "persecutions" "[LRestitutory$Persecution;") (by decide +kernel)) rfl rfl hnm (by decide +kernel) rfl rfl (Nat.le_of_ble_eq_true rfl) dX4_init_19 fun H locs hW => ?_
  have hW : xW D sa A s xb2 (xup (xup (xup (G) 1 0 (rfs (D.2 0) 12 (fun _ => none))) 2 0 (rfs (D.2 1) 20 (fun _ => none))) 0 0 (.inr (4, [.ref (xb2 1 0), .int (nI (0)), .ref (xb2 2 0), .int (nI (0)), .null, .int (nI (0)), .null, .int (nI (0))]))) H locs := hW.eqG (xup_sq1 _ _ _ _ _ _ _ _).symm
  refine lv_aload_n hx hb dX4_init_22 rfl (lv_at hl 0 rfl) ?_
  refine lv_iconst (v := nI (5)) hx hb dX4_init_23 (by decide +kernel) ?_
  refine x_newa (atype := .int) (N' := 5) (a0 := (5, .inl (fun _ => nI 0))) hx hb (hts (.arrayClass .int) (by decide +kernel)) 4 (ty := .int) rfl rfl id hW 3 0 ((xup_ne _ _ (by omega)).trans ((xup_ne _ _ (by omega)).trans ((xup_ne _ _ (by omega)).trans (hA0 3 0 (by omega))))) (fun cA => by rw [vp_cell_i]; rfl) (by decide +kernel) (by decide +kernel) (by decide +kernel) (Nat.le_of_ble_eq_true rfl) (Nat.le_of_ble_eq_true rfl) dX4_init_24 fun xb3 H hxb3 hW => ?_
  refine W_stk (st' := [.ref (xb3 3 0), .ref (xb3 0 0)]) (by rw [hxb3 0 0 (by omega)]) ?_
  have hl : lv_has ls 1 [(0, .ref (xb3 0 0))] := by rw [hxb3 0 0 (by omega)]; exact hl
  rw [← hxb3 1 0 (by omega), ← hxb3 2 0 (by omega)] at hW
  refine x_putF (ty := .array (.int)) (v := .ref (xb3 3 0)) hx hb hts hin4 tyX4 tyX4_ok nmX4 hown hW 0 (0) (fs := [.ref (xb3 1 0), .int (nI (0)), .ref (xb3 2 0), .int (nI (0)), .null, .int (nI (0)), .null, .int (nI (0))]) ((xup_ne _ _ (by omega)).trans ((xup_self _ _ _ _))) rfl 4 (by decide) (hts (.fieldLink RX4 21 RX4 "faithYears" "[I") (by decide +kernel)) rfl rfl hnm (by decide +kernel) rfl rfl (Nat.le_of_ble_eq_true rfl) dX4_init_26 fun H locs hW => ?_
  have hW : xW D sa A s xb3 (xup (xup (xup (xup (G) 1 0 (rfs (D.2 0) 12 (fun _ => none))) 2 0 (rfs (D.2 1) 20 (fun _ => none))) 3 0 (.inl (D.2 4, 5, .inl (fun _ => nI 0)))) 0 0 (.inr (4, [.ref (xb3 1 0), .int (nI (0)), .ref (xb3 2 0), .int (nI (0)), .ref (xb3 3 0), .int (nI (0)), .null, .int (nI (0))]))) H locs := hW.eqG (xup_sq1 _ _ _ _ _ _ _ _).symm
  refine lv_aload_n hx hb dX4_init_29 rfl (lv_at hl 0 rfl) ?_
  refine lv_sipush (v := nI (1900)) hx hb dX4_init_30 (by decide +kernel) ?_
  refine x_put (ty := .int) (v := .int (nI (1900))) hx hb hts hin4 tyX4 tyX4_ok nmX4 hown hW 0 (0) (fs := [.ref (xb3 1 0), .int (nI (0)), .ref (xb3 2 0), .int (nI (0)), .ref (xb3 3 0), .int (nI (0)), .null, .int (nI (0))]) ((xup_self _ _ _ _)) rfl 5 (by decide) (hts (.fieldLink RX4 25 "Restitutory" "currentYear" "I") (by decide +kernel)) rfl rfl (by decide +kernel) rfl rfl (Nat.le_of_ble_eq_true rfl) dX4_init_33 fun H locs hW => ?_
  have hW : xW D sa A s xb3 (xup (xup (xup (xup (G) 1 0 (rfs (D.2 0) 12 (fun _ => none))) 2 0 (rfs (D.2 1) 20 (fun _ => none))) 3 0 (.inl (D.2 4, 5, .inl (fun _ => nI 0)))) 0 0 (.inr (4, [.ref (xb3 1 0), .int (nI (0)), .ref (xb3 2 0), .int (nI (0)), .ref (xb3 3 0), .int (nI (1900)), .null, .int (nI (0))]))) H locs := hW.eqG (xup_sq _ _ _ _ _).symm
  refine lv_aload_n hx hb dX4_init_36 rfl (lv_at hl 0 rfl) ?_
  refine lv_bipush (v := nI (10)) hx hb dX4_init_37 (by decide +kernel) ?_
  refine x_newq (N' := 10) hx hb hown (hts (.classLink RX4 29 RX3) (by decide +kernel)) (hW.AO (by decide)) hW 4 0 2 rfl ((xup_ne _ _ (by omega)).trans ((xup_ne _ _ (by omega)).trans ((xup_ne _ _ (by omega)).trans ((xup_ne _ _ (by omega)).trans (hA0 4 0 (by omega)))))) (by decide +kernel) (by decide +kernel) (by omega) (Nat.le_of_ble_eq_true rfl) (Nat.le_of_ble_eq_true rfl) dX4_init_39 fun xb4 H hxb4 hW => ?_
  refine W_stk (st' := [.ref (xb4 4 0), .ref (xb4 0 0)]) (by rw [hxb4 0 0 (by omega)]) ?_
  have hl : lv_has ls 1 [(0, .ref (xb4 0 0))] := by rw [hxb4 0 0 (by omega)]; exact hl
  rw [← hxb4 1 0 (by omega), ← hxb4 2 0 (by omega), ← hxb4 3 0 (by omega)] at hW
  refine x_putF (ty := .array (.object "Restitutory$Thing")) (v := .ref (xb4 4 0)) hx hb hts hin4 tyX4 tyX4_ok nmX4 hown hW 0 (0) (fs := [.ref (xb4 1 0), .int (nI (0)), .ref (xb4 2 0), .int (nI (0)), .ref (xb4 3 0), .int (nI (1900)), .null, .int (nI (0))]) ((xup_ne _ _ (by omega)).trans ((xup_self _ _ _ _))) rfl 6 (by decide) (hts (.fieldLink RX4 31 RX4 "things" "[LRestitutory$Thing;") (by decide +kernel)) rfl rfl hnm (by decide +kernel) rfl rfl (Nat.le_of_ble_eq_true rfl) dX4_init_42 fun H locs hW => ?_
  have hW : xW D sa A s xb4 (xup (xup (xup (xup (xup (G) 1 0 (rfs (D.2 0) 12 (fun _ => none))) 2 0 (rfs (D.2 1) 20 (fun _ => none))) 3 0 (.inl (D.2 4, 5, .inl (fun _ => nI 0)))) 4 0 (rfs (D.2 2) 10 (fun _ => none))) 0 0 (.inr (4, [.ref (xb4 1 0), .int (nI (0)), .ref (xb4 2 0), .int (nI (0)), .ref (xb4 3 0), .int (nI (1900)), .ref (xb4 4 0), .int (nI (0))]))) H locs := hW.eqG (xup_sq1 _ _ _ _ _ _ _ _).symm
  exact xe_v hx hb hr hlocks (hW.eqG (x0_eq G D xb4 hA0)) ⟨xb4, fun k_ i_ hk_ => (hxb4 k_ i_ (by omega)).trans ((hxb3 k_ i_ (by omega)).trans ((hxb2 k_ i_ (by omega)).trans (hxb1 k_ i_ (by omega)))), rfl⟩ (Nat.le_of_ble_eq_true rfl) (Nat.le_of_ble_eq_true rfl) dX4_init_45
