set_option maxHeartbeats 4000000 in
set_option maxRecDepth 100000 in
theorem c_X4_requireGroup (l : Launch) (hst0 : l.stackTraces = false) (D : xD) (sa : Nat → Nat) (xa : xA) (G : xG) (g : Int32) : xXv l yX4_requireGroup wsX4_requireGroup ({ frames := 10, cells := 1, slots := 6, locals := 200 } : Room) D sa xa G [.int g] (fun u => u = (xa, G) ∧ rg g 0 3) (fun E => E = xIob ∧ ¬ rg g 0 3) 1 6 := by
  intro sz
  refine vx_ofW (cc := cX4_requireGroup) (maxL := 1) (ret := none) (by decide +kernel) rfl ?_
  intro p e s m args below meth c s₁ B hml hout hv
  obtain ⟨rfl, hsz, hv2⟩ := hv
  subst hsz
  have hx := B.exec
  have hb := B.bytes
  have hr := B.returns
  have hts := atoms_spec (ws := wsX4_requireGroup) B.pre
  have hown : s.vm.findClass RX4 = some m.cls := findClass_of_methodNamed B.named
  have hlocks := B.notSynchronized
  have hW := xW.start (s := s) ⟨rfl, hv2⟩
  clear hv2
  generalize xAw xa (G) s.heap.size = A at hW ⊢
  have hl := lv_entry ([.int (g)]) (n := 1) (Nat.le_of_ble_eq_true rfl)
  rw [lg_entry_eq]
  generalize (lg_sl ([.int (g)]) ++ List.replicate (1 - (lg_sl ([.int (g)])).length) Slot.unset).toArray = ls at hl ⊢
  have hl : lv_has ls 1 [(0, .int (g))] := hl
  refine lv_iload_n hx hb dX4_requireGroup_0 rfl (lv_at hl 0 rfl) ?_
  refine lv_if_lt (tgt := 9) hx hb dX4_requireGroup_1 (by decide) (fun c_1 => ?_) (fun c_1 => ?_)
  · -- lt taken
    have c_1 := Int32.lt_iff_toInt_lt.mp c_1
    rw [x_t0] at c_1
    exact y_throw (cls := xIob) (text := "there is no such group") hx hb hst0 hown ce_iob (hts (.classLink RX4 157 "java/lang/IndexOutOfBoundsException") (by decide +kernel)) (hts (.initialized "java/lang/IndexOutOfBoundsException") (by decide +kernel)) (fun w h => hts w (List.mem_cons_of_mem _ (List.mem_append_right _ h))) (by decide +kernel) hW (hl.1.trans hml.symm) dX4_requireGroup_9 dX4_requireGroup_12 dX4_requireGroup_13 dX4_requireGroup_15 dX4_requireGroup_18 ⟨hout, hlocks⟩ (Nat.le_of_ble_eq_true rfl) (Nat.le_of_ble_eq_true rfl) ⟨Nat.le_of_ble_eq_true rfl, Nat.le_of_ble_eq_true rfl⟩ (⟨rfl, fun h => by unfold rg at h; omega⟩) ⟨Nat.le_of_ble_eq_true rfl, Nat.le_of_ble_eq_true rfl⟩
  · -- lt not
    have c_1 : ¬ ((g).toInt < ((0 : Int32)).toInt) := fun h => c_1 (Int32.lt_iff_toInt_lt.mpr h)
    rw [x_t0] at c_1
    refine lv_iload_n hx hb dX4_requireGroup_4 rfl (lv_at hl 0 rfl) ?_
    refine lv_iconst (v := nI (4)) hx hb dX4_requireGroup_5 (by decide +kernel) ?_
    refine lv_icmp_lt (tgt := 19) hx hb dX4_requireGroup_6 (by decide) (fun c_6 => ?_) (fun c_6 => ?_)
    · -- lt taken
      have c_6 := Int32.lt_iff_toInt_lt.mp c_6
      rw [nI_toInt (n := 4) (by omega)] at c_6
      exact ye_v hx hb hr hlocks hW ⟨rfl, by unfold rg; omega⟩ (Nat.le_of_ble_eq_true rfl) (Nat.le_of_ble_eq_true rfl) dX4_requireGroup_19
    · -- lt not
      have c_6 : ¬ ((g).toInt < (nI (4)).toInt) := fun h => c_6 (Int32.lt_iff_toInt_lt.mpr h)
      rw [nI_toInt (n := 4) (by omega)] at c_6
      exact y_throw (cls := xIob) (text := "there is no such group") hx hb hst0 hown ce_iob (hts (.classLink RX4 157 "java/lang/IndexOutOfBoundsException") (by decide +kernel)) (hts (.initialized "java/lang/IndexOutOfBoundsException") (by decide +kernel)) (fun w h => hts w (List.mem_cons_of_mem _ (List.mem_append_right _ h))) (by decide +kernel) hW (hl.1.trans hml.symm) dX4_requireGroup_9 dX4_requireGroup_12 dX4_requireGroup_13 dX4_requireGroup_15 dX4_requireGroup_18 ⟨hout, hlocks⟩ (Nat.le_of_ble_eq_true rfl) (Nat.le_of_ble_eq_true rfl) ⟨Nat.le_of_ble_eq_true rfl, Nat.le_of_ble_eq_true rfl⟩ (⟨rfl, fun h => by unfold rg at h; omega⟩) ⟨Nat.le_of_ble_eq_true rfl, Nat.le_of_ble_eq_true rfl⟩

set_option maxHeartbeats 4000000 in
set_option maxRecDepth 100000 in
theorem c_X4_requireLand (l : Launch) (hst0 : l.stackTraces = false) (D : xD) (sa : Nat → Nat) (xa : xA) (G : xG) (a : Int32) : xXv l yX4_requireLand wsX4_requireLand ({ frames := 10, cells := 1, slots := 6, locals := 200 } : Room) D sa xa G [.int a] (fun u => u = (xa, G) ∧ pL a) (fun E => E = xIob ∧ ¬ pL a) 1 6 := by
  intro sz
  refine vx_ofW (cc := cX4_requireLand) (maxL := 1) (ret := none) (by decide +kernel) rfl ?_
  intro p e s m args below meth c s₁ B hml hout hv
  obtain ⟨rfl, hsz, hv2⟩ := hv
  subst hsz
  have hx := B.exec
  have hb := B.bytes
  have hr := B.returns
  have hts := atoms_spec (ws := wsX4_requireLand) B.pre
  have hown : s.vm.findClass RX4 = some m.cls := findClass_of_methodNamed B.named
  have hlocks := B.notSynchronized
  have hW := xW.start (s := s) ⟨rfl, hv2⟩
  clear hv2
  generalize xAw xa (G) s.heap.size = A at hW ⊢
  have hl := lv_entry ([.int (a)]) (n := 1) (Nat.le_of_ble_eq_true rfl)
  rw [lg_entry_eq]
  generalize (lg_sl ([.int (a)]) ++ List.replicate (1 - (lg_sl ([.int (a)])).length) Slot.unset).toArray = ls at hl ⊢
  have hl : lv_has ls 1 [(0, .int (a))] := hl
  refine lv_iload_n hx hb dX4_requireLand_0 rfl (lv_at hl 0 rfl) ?_
  refine lv_if_lt (tgt := 9) hx hb dX4_requireLand_1 (by decide) (fun c_1 => ?_) (fun c_1 => ?_)
  · -- lt taken
    have c_1 := Int32.lt_iff_toInt_lt.mp c_1
    rw [x_t0] at c_1
    exact y_throw (cls := xIob) (text := "there is no such land") hx hb hst0 hown ce_iob (hts (.classLink RX4 157 "java/lang/IndexOutOfBoundsException") (by decide +kernel)) (hts (.initialized "java/lang/IndexOutOfBoundsException") (by decide +kernel)) (fun w h => hts w (List.mem_cons_of_mem _ (List.mem_append_right _ h))) (by decide +kernel) hW (hl.1.trans hml.symm) dX4_requireLand_9 dX4_requireLand_12 dX4_requireLand_13 dX4_requireLand_15 dX4_requireLand_18 ⟨hout, hlocks⟩ (Nat.le_of_ble_eq_true rfl) (Nat.le_of_ble_eq_true rfl) ⟨Nat.le_of_ble_eq_true rfl, Nat.le_of_ble_eq_true rfl⟩ (⟨rfl, fun h => by unfold pL at h; omega⟩) ⟨Nat.le_of_ble_eq_true rfl, Nat.le_of_ble_eq_true rfl⟩
  · -- lt not
    have c_1 : ¬ ((a).toInt < ((0 : Int32)).toInt) := fun h => c_1 (Int32.lt_iff_toInt_lt.mpr h)
    rw [x_t0] at c_1
    refine lv_iload_n hx hb dX4_requireLand_4 rfl (lv_at hl 0 rfl) ?_
    refine lv_iconst (v := nI (5)) hx hb dX4_requireLand_5 (by decide +kernel) ?_
    refine lv_icmp_lt (tgt := 19) hx hb dX4_requireLand_6 (by decide) (fun c_6 => ?_) (fun c_6 => ?_)
    · -- lt taken
      have c_6 := Int32.lt_iff_toInt_lt.mp c_6
      rw [nI_toInt (n := 5) (by omega)] at c_6
      exact ye_v hx hb hr hlocks hW ⟨rfl, by unfold pL; omega⟩ (Nat.le_of_ble_eq_true rfl) (Nat.le_of_ble_eq_true rfl) dX4_requireLand_19
    · -- lt not
      have c_6 : ¬ ((a).toInt < (nI (5)).toInt) := fun h => c_6 (Int32.lt_iff_toInt_lt.mpr h)
      rw [nI_toInt (n := 5) (by omega)] at c_6
      exact y_throw (cls := xIob) (text := "there is no such land") hx hb hst0 hown ce_iob (hts (.classLink RX4 157 "java/lang/IndexOutOfBoundsException") (by decide +kernel)) (hts (.initialized "java/lang/IndexOutOfBoundsException") (by decide +kernel)) (fun w h => hts w (List.mem_cons_of_mem _ (List.mem_append_right _ h))) (by decide +kernel) hW (hl.1.trans hml.symm) dX4_requireLand_9 dX4_requireLand_12 dX4_requireLand_13 dX4_requireLand_15 dX4_requireLand_18 ⟨hout, hlocks⟩ (Nat.le_of_ble_eq_true rfl) (Nat.le_of_ble_eq_true rfl) ⟨Nat.le_of_ble_eq_true rfl, Nat.le_of_ble_eq_true rfl⟩ (⟨rfl, fun h => by unfold pL at h; omega⟩) ⟨Nat.le_of_ble_eq_true rfl, Nat.le_of_ble_eq_true rfl⟩

set_option maxHeartbeats 4000000 in
set_option maxRecDepth 100000 in
theorem c_X4_requireRange (l : Launch) (hst0 : l.stackTraces = false) (D : xD) (sa : Nat → Nat) (xa : xA) (G : xG) (v a b : Int32) : xXv l yX4_requireRange wsX4_requireRange ({ frames := 10, cells := 1, slots := 6, locals := 200 } : Room) D sa xa G [.int v, .int a, .int b] (fun u => u = (xa, G) ∧ (a.toInt ≤ v.toInt ∧ v.toInt ≤ b.toInt)) (fun E => E = xIae ∧ ¬ (a.toInt ≤ v.toInt ∧ v.toInt ≤ b.toInt)) 1 6 := by
  intro sz
  refine vx_ofW (cc := cX4_requireRange) (maxL := 3) (ret := none) (by decide +kernel) rfl ?_
  intro p e s m args below meth c s₁ B hml hout hv
  obtain ⟨rfl, hsz, hv2⟩ := hv
  subst hsz
  have hx := B.exec
  have hb := B.bytes
  have hr := B.returns
  have hts := atoms_spec (ws := wsX4_requireRange) B.pre
  have hown : s.vm.findClass RX4 = some m.cls := findClass_of_methodNamed B.named
  have hlocks := B.notSynchronized
  have hW := xW.start (s := s) ⟨rfl, hv2⟩
  clear hv2
  generalize xAw xa (G) s.heap.size = A at hW ⊢
  have hl := lv_entry ([.int (v), .int (a), .int (b)]) (n := 3) (Nat.le_of_ble_eq_true rfl)
  rw [lg_entry_eq]
  generalize (lg_sl ([.int (v), .int (a), .int (b)]) ++ List.replicate (3 - (lg_sl ([.int (v), .int (a), .int (b)])).length) Slot.unset).toArray = ls at hl ⊢
  have hl : lv_has ls 3 [(0, .int (v)), (1, .int (a)), (2, .int (b))] := hl
  refine lv_iload_n hx hb dX4_requireRange_0 rfl (lv_at hl 0 rfl) ?_
  refine lv_iload_n hx hb dX4_requireRange_1 rfl (lv_at hl 1 rfl) ?_
  refine lv_icmp_lt (tgt := 10) hx hb dX4_requireRange_2 (by decide) (fun c_2 => ?_) (fun c_2 => ?_)
  · -- lt taken
    have c_2 := Int32.lt_iff_toInt_lt.mp c_2
    exact y_throw (cls := xIae) (text := "an argument is out of its range") hx hb hst0 hown ce_iae (hts (.classLink RX4 62 "java/lang/IllegalArgumentException") (by decide +kernel)) (hts (.initialized "java/lang/IllegalArgumentException") (by decide +kernel)) (fun w h => hts w (List.mem_cons_of_mem _ (List.mem_append_right _ h))) (by decide +kernel) hW (hl.1.trans hml.symm) dX4_requireRange_10 dX4_requireRange_13 dX4_requireRange_14 dX4_requireRange_16 dX4_requireRange_19 ⟨hout, hlocks⟩ (Nat.le_of_ble_eq_true rfl) (Nat.le_of_ble_eq_true rfl) ⟨Nat.le_of_ble_eq_true rfl, Nat.le_of_ble_eq_true rfl⟩ (⟨rfl, fun h => by omega⟩) ⟨Nat.le_of_ble_eq_true rfl, Nat.le_of_ble_eq_true rfl⟩
  · -- lt not
    have c_2 : ¬ ((v).toInt < (a).toInt) := fun h => c_2 (Int32.lt_iff_toInt_lt.mpr h)
    refine lv_iload_n hx hb dX4_requireRange_5 rfl (lv_at hl 0 rfl) ?_
    refine lv_iload_n hx hb dX4_requireRange_6 rfl (lv_at hl 2 rfl) ?_
    refine lv_icmp_le (tgt := 20) hx hb dX4_requireRange_7 (by decide) (fun c_7 => ?_) (fun c_7 => ?_)
    · -- le taken
      have c_7 := Int32.le_iff_toInt_le.mp c_7
      exact ye_v hx hb hr hlocks hW ⟨rfl, by omega⟩ (Nat.le_of_ble_eq_true rfl) (Nat.le_of_ble_eq_true rfl) dX4_requireRange_20
    · -- le not
      have c_7 : ¬ ((v).toInt ≤ (b).toInt) := fun h => c_7 (Int32.le_iff_toInt_le.mpr h)
      exact y_throw (cls := xIae) (text := "an argument is out of its range") hx hb hst0 hown ce_iae (hts (.classLink RX4 62 "java/lang/IllegalArgumentException") (by decide +kernel)) (hts (.initialized "java/lang/IllegalArgumentException") (by decide +kernel)) (fun w h => hts w (List.mem_cons_of_mem _ (List.mem_append_right _ h))) (by decide +kernel) hW (hl.1.trans hml.symm) dX4_requireRange_10 dX4_requireRange_13 dX4_requireRange_14 dX4_requireRange_16 dX4_requireRange_19 ⟨hout, hlocks⟩ (Nat.le_of_ble_eq_true rfl) (Nat.le_of_ble_eq_true rfl) ⟨Nat.le_of_ble_eq_true rfl, Nat.le_of_ble_eq_true rfl⟩ (⟨rfl, fun h => by omega⟩) ⟨Nat.le_of_ble_eq_true rfl, Nat.le_of_ble_eq_true rfl⟩

set_option maxHeartbeats 4000000 in
set_option maxRecDepth 100000 in
theorem c_X4_personNumbered (l : Launch) (hst0 : l.stackTraces = false) (D : xD) (sa : Nat → Nat) (xa : xA) (G0 : xG) (σ : Sg) (τ : Tg) (hg : Gd σ) (hL : LL σ τ) (x : Int32) : xXr l yX4_personNumbered wsX4_personNumbered ({ frames := 10, cells := 1, slots := 6, locals := 200 } : Room) D sa xa (xGs G0 D xa σ τ) [.ref (xa 0 0), .int x] (fun a u => ∃ i, i < σ 5 0 ∧ x = nI i ∧ a = xa 10 i ∧ u = (xa, xGs G0 D xa σ τ)) (fun E => E = xIob ∧ ¬ pP σ x) 1 6 := by
  have hB := hg.1
  have h5 := hg.2.1.1
  have h7 := hg.2.1.2.1
  have h12 := hg.2.1.2.2.1
  have hy0 := hg.2.1.2.2.2.1
  have hy1 := hg.2.1.2.2.2.2
  have hm := hg.hm
  have hs8 := hg.hs8
  intro sz
  refine vx_ofW (cc := cX4_personNumbered) (maxL := 3) (ret := (some (.object "Restitutory$Person"))) (by decide +kernel) rfl ?_
  intro p e s m args below meth c s₁ B hml hout hv
  obtain ⟨rfl, hsz, hv2⟩ := hv
  subst hsz
  have hx := B.exec
  have hb := B.bytes
  have hr := B.returns
  have hts := atoms_spec (ws := wsX4_personNumbered) B.pre
  have hown : s.vm.findClass RX4 = some m.cls := findClass_of_methodNamed B.named
  have hlocks := B.notSynchronized
  have hin4 : ∀ w ∈ wsX40, w ∈ wsX4_personNumbered := by decide +kernel
  have hW := xW.start (s := s) ⟨rfl, hv2⟩
  clear hv2
  generalize xAw xa (xGs G0 D xa σ τ) s.heap.size = A at hW ⊢
  have hl := lv_entry ([.ref (xa 0 0), .int (x)]) (n := 3) (Nat.le_of_ble_eq_true rfl)
  rw [lg_entry_eq]
  generalize (lg_sl ([.ref (xa 0 0), .int (x)]) ++ List.replicate (3 - (lg_sl ([.ref (xa 0 0), .int (x)])).length) Slot.unset).toArray = ls at hl ⊢
  have hl : lv_has ls 3 [(0, .ref (xa 0 0)), (1, .int (x))] := hl
  refine lv_iload_n hx hb dX4_personNumbered_0 rfl (lv_at hl 1 rfl) ?_
  refine lv_if_lt (tgt := 19) hx hb dX4_personNumbered_1 (by decide) (fun c_1 => ?_) (fun c_1 => ?_)
  · -- lt taken
    have c_1 := Int32.lt_iff_toInt_lt.mp c_1
    rw [x_t0] at c_1
    refine lv_null hx hb dX4_personNumbered_19 ?_
    refine lv_astore_nN (lv' := [(2, .null), (0, .ref (xa 0 0)), (1, .int (x))]) hx hb dX4_personNumbered_20 rfl hl (by decide) rfl (fun ls hl => ?_)
    have hl : lv_has ls 3 [(0, .ref (xa 0 0)), (1, .int (x)), (2, .null)] := lv_sub hl [1, 2, 0] rfl
    refine lv_aload_nN hx hb dX4_personNumbered_21 rfl (lv_at hl 2 rfl) ?_
    refine lv_ifnonnullN hx hb dX4_personNumbered_22 ?_
    exact y_throw (cls := xIob) (text := "there is no such person") hx hb hst0 hown ce_iob (hts (.classLink RX4 157 "java/lang/IndexOutOfBoundsException") (by decide +kernel)) (hts (.initialized "java/lang/IndexOutOfBoundsException") (by decide +kernel)) (fun w h => hts w (List.mem_cons_of_mem _ (List.mem_append_right _ h))) (by decide +kernel) hW (hl.1.trans hml.symm) dX4_personNumbered_25 dX4_personNumbered_28 dX4_personNumbered_29 dX4_personNumbered_31 dX4_personNumbered_34 ⟨hout, hlocks⟩ (Nat.le_of_ble_eq_true rfl) (Nat.le_of_ble_eq_true rfl) ⟨Nat.le_of_ble_eq_true rfl, Nat.le_of_ble_eq_true rfl⟩ (⟨rfl, fun h => by unfold pP at h; (first | omega | (rw [nI_toInt (by omega)] at h; omega))⟩) ⟨Nat.le_of_ble_eq_true rfl, Nat.le_of_ble_eq_true rfl⟩
  · -- lt not
    have c_1 : ¬ ((x).toInt < ((0 : Int32)).toInt) := fun h => c_1 (Int32.lt_iff_toInt_lt.mpr h)
    rw [x_t0] at c_1
    refine lv_iload_n hx hb dX4_personNumbered_4 rfl (lv_at hl 1 rfl) ?_
    refine lv_bipush (v := nI (12)) hx hb dX4_personNumbered_5 (by decide +kernel) ?_
    refine lv_icmp_ge (tgt := 19) hx hb dX4_personNumbered_7 (by decide) (fun c_7 => ?_) (fun c_7 => ?_)
    · -- ge taken
      have c_7 := Int32.le_iff_toInt_le.mp c_7
      rw [nI_toInt (n := 12) (by omega)] at c_7
      refine lv_null hx hb dX4_personNumbered_19 ?_
      refine lv_astore_nN (lv' := [(2, .null), (0, .ref (xa 0 0)), (1, .int (x))]) hx hb dX4_personNumbered_20 rfl hl (by decide) rfl (fun ls hl => ?_)
      have hl : lv_has ls 3 [(0, .ref (xa 0 0)), (1, .int (x)), (2, .null)] := lv_sub hl [1, 2, 0] rfl
      refine lv_aload_nN hx hb dX4_personNumbered_21 rfl (lv_at hl 2 rfl) ?_
      refine lv_ifnonnullN hx hb dX4_personNumbered_22 ?_
      exact y_throw (cls := xIob) (text := "there is no such person") hx hb hst0 hown ce_iob (hts (.classLink RX4 157 "java/lang/IndexOutOfBoundsException") (by decide +kernel)) (hts (.initialized "java/lang/IndexOutOfBoundsException") (by decide +kernel)) (fun w h => hts w (List.mem_cons_of_mem _ (List.mem_append_right _ h))) (by decide +kernel) hW (hl.1.trans hml.symm) dX4_personNumbered_25 dX4_personNumbered_28 dX4_personNumbered_29 dX4_personNumbered_31 dX4_personNumbered_34 ⟨hout, hlocks⟩ (Nat.le_of_ble_eq_true rfl) (Nat.le_of_ble_eq_true rfl) ⟨Nat.le_of_ble_eq_true rfl, Nat.le_of_ble_eq_true rfl⟩ (⟨rfl, fun h => by unfold pP at h; (first | omega | (rw [nI_toInt (by omega)] at h; omega))⟩) ⟨Nat.le_of_ble_eq_true rfl, Nat.le_of_ble_eq_true rfl⟩
    · -- ge not
      have c_7 : ¬ ((nI (12)).toInt ≤ (x).toInt) := fun h => c_7 (Int32.le_iff_toInt_le.mpr h)
      rw [nI_toInt (n := 12) (by omega)] at c_7
      obtain ⟨i, hi0, rfl⟩ := x_nat (n := 12) (x := x) (by omega) (by omega)
      by_cases hin : i < σ 5 0
      ·
        refine lv_aload_n hx hb dX4_personNumbered_10 rfl (lv_at hl 0 rfl) ?_
        refine x_get hx hb hts hin4 hown hW 0 0 (xg_x G0 D xa σ τ) rfl 0 (by decide) (hts (.fieldLink RX4 11 "Restitutory" "people" "[LRestitutory$Person;") (by decide +kernel)) rfl (v := .ref (xa 1 0)) (rfl) dX4_personNumbered_11 ?_
        refine lv_iload_n hx hb dX4_personNumbered_14 rfl (lv_at hl 1 rfl) ?_
        refine x_ald2 hx hb hW 1 0 0 rfl (xg_pa G0 D xa σ τ) (i) (by omega) (by omega) (v := .ref (xa 10 i)) (by show va_rf (if _ then _ else _) = _; rw [if_pos hin]; rfl) dX4_personNumbered_15 ?_
        refine lv_goto (tgt := 20) hx hb dX4_personNumbered_16 (by decide) ?_
        refine lv_astore_n (lv' := [(2, .ref (xa 10 i)), (0, .ref (xa 0 0)), (1, .int (nI (i)))]) hx hb dX4_personNumbered_20 rfl hl (by decide) rfl (fun ls hl => ?_)
        have hl : lv_has ls 3 [(0, .ref (xa 0 0)), (1, .int (nI (i))), (2, .ref (xa 10 i))] := lv_sub hl [1, 2, 0] rfl
        refine lv_aload_n hx hb dX4_personNumbered_21 rfl (lv_at hl 2 rfl) ?_
        refine lv_ifnonnull (tgt := 35) hx hb dX4_personNumbered_22 (by decide) ?_
        refine lv_aload_n hx hb dX4_personNumbered_35 rfl (lv_at hl 2 rfl) ?_
        exact ye_r hx hb hr hlocks hW ⟨i, hin, rfl, rfl, rfl⟩ (Nat.le_of_ble_eq_true rfl) (Nat.le_of_ble_eq_true rfl) dX4_personNumbered_36
      ·
        refine lv_aload_n hx hb dX4_personNumbered_10 rfl (lv_at hl 0 rfl) ?_
        refine x_get hx hb hts hin4 hown hW 0 0 (xg_x G0 D xa σ τ) rfl 0 (by decide) (hts (.fieldLink RX4 11 "Restitutory" "people" "[LRestitutory$Person;") (by decide +kernel)) rfl (v := .ref (xa 1 0)) (rfl) dX4_personNumbered_11 ?_
        refine lv_iload_n hx hb dX4_personNumbered_14 rfl (lv_at hl 1 rfl) ?_
        refine x_ald2 hx hb hW 1 0 0 rfl (xg_pa G0 D xa σ τ) (i) (by omega) (by omega) (v := .null) (by show va_rf (if _ then _ else _) = _; rw [if_neg hin]; rfl) dX4_personNumbered_15 ?_
        refine lv_goto (tgt := 20) hx hb dX4_personNumbered_16 (by decide) ?_
        refine lv_astore_nN (lv' := [(2, .null), (0, .ref (xa 0 0)), (1, .int (nI (i)))]) hx hb dX4_personNumbered_20 rfl hl (by decide) rfl (fun ls hl => ?_)
        have hl : lv_has ls 3 [(0, .ref (xa 0 0)), (1, .int (nI (i))), (2, .null)] := lv_sub hl [1, 2, 0] rfl
        refine lv_aload_nN hx hb dX4_personNumbered_21 rfl (lv_at hl 2 rfl) ?_
        refine lv_ifnonnullN hx hb dX4_personNumbered_22 ?_
        exact y_throw (cls := xIob) (text := "there is no such person") hx hb hst0 hown ce_iob (hts (.classLink RX4 157 "java/lang/IndexOutOfBoundsException") (by decide +kernel)) (hts (.initialized "java/lang/IndexOutOfBoundsException") (by decide +kernel)) (fun w h => hts w (List.mem_cons_of_mem _ (List.mem_append_right _ h))) (by decide +kernel) hW (hl.1.trans hml.symm) dX4_personNumbered_25 dX4_personNumbered_28 dX4_personNumbered_29 dX4_personNumbered_31 dX4_personNumbered_34 ⟨hout, hlocks⟩ (Nat.le_of_ble_eq_true rfl) (Nat.le_of_ble_eq_true rfl) ⟨Nat.le_of_ble_eq_true rfl, Nat.le_of_ble_eq_true rfl⟩ (⟨rfl, fun h => by unfold pP at h; (first | omega | (rw [nI_toInt (by omega)] at h; omega))⟩) ⟨Nat.le_of_ble_eq_true rfl, Nat.le_of_ble_eq_true rfl⟩

set_option maxHeartbeats 4000000 in
set_option maxRecDepth 100000 in
theorem c_X4_thingNumbered (l : Launch) (hst0 : l.stackTraces = false) (D : xD) (sa : Nat → Nat) (xa : xA) (G0 : xG) (σ : Sg) (τ : Tg) (hg : Gd σ) (hL : LL σ τ) (x : Int32) : xXr l yX4_thingNumbered wsX4_thingNumbered ({ frames := 10, cells := 1, slots := 6, locals := 200 } : Room) D sa xa (xGs G0 D xa σ τ) [.ref (xa 0 0), .int x] (fun a u => ∃ i, i < σ 12 0 ∧ x = nI i ∧ a = xa 13 i ∧ u = (xa, xGs G0 D xa σ τ)) (fun E => E = xIob ∧ ¬ pT σ x) 1 6 := by
  have hB := hg.1
  have h5 := hg.2.1.1
  have h7 := hg.2.1.2.1
  have h12 := hg.2.1.2.2.1
  have hy0 := hg.2.1.2.2.2.1
  have hy1 := hg.2.1.2.2.2.2
  have hm := hg.hm
  have hs8 := hg.hs8
  intro sz
  refine vx_ofW (cc := cX4_thingNumbered) (maxL := 3) (ret := (some (.object "Restitutory$Thing"))) (by decide +kernel) rfl ?_
  intro p e s m args below meth c s₁ B hml hout hv
  obtain ⟨rfl, hsz, hv2⟩ := hv
  subst hsz
  have hx := B.exec
  have hb := B.bytes
  have hr := B.returns
  have hts := atoms_spec (ws := wsX4_thingNumbered) B.pre
  have hown : s.vm.findClass RX4 = some m.cls := findClass_of_methodNamed B.named
  have hlocks := B.notSynchronized
  have hin4 : ∀ w ∈ wsX40, w ∈ wsX4_thingNumbered := by decide +kernel
  have hW := xW.start (s := s) ⟨rfl, hv2⟩
  clear hv2
  generalize xAw xa (xGs G0 D xa σ τ) s.heap.size = A at hW ⊢
  have hl := lv_entry ([.ref (xa 0 0), .int (x)]) (n := 3) (Nat.le_of_ble_eq_true rfl)
  rw [lg_entry_eq]
  generalize (lg_sl ([.ref (xa 0 0), .int (x)]) ++ List.replicate (3 - (lg_sl ([.ref (xa 0 0), .int (x)])).length) Slot.unset).toArray = ls at hl ⊢
  have hl : lv_has ls 3 [(0, .ref (xa 0 0)), (1, .int (x))] := hl
  refine lv_iload_n hx hb dX4_thingNumbered_0 rfl (lv_at hl 1 rfl) ?_
  refine lv_if_lt (tgt := 19) hx hb dX4_thingNumbered_1 (by decide) (fun c_1 => ?_) (fun c_1 => ?_)
  · -- lt taken
    have c_1 := Int32.lt_iff_toInt_lt.mp c_1
    rw [x_t0] at c_1
    refine lv_null hx hb dX4_thingNumbered_19 ?_
    refine lv_astore_nN (lv' := [(2, .null), (0, .ref (xa 0 0)), (1, .int (x))]) hx hb dX4_thingNumbered_20 rfl hl (by decide) rfl (fun ls hl => ?_)
    have hl : lv_has ls 3 [(0, .ref (xa 0 0)), (1, .int (x)), (2, .null)] := lv_sub hl [1, 2, 0] rfl
    refine lv_aload_nN hx hb dX4_thingNumbered_21 rfl (lv_at hl 2 rfl) ?_
    refine lv_ifnonnullN hx hb dX4_thingNumbered_22 ?_
    exact y_throw (cls := xIob) (text := "there is no such thing") hx hb hst0 hown ce_iob (hts (.classLink RX4 157 "java/lang/IndexOutOfBoundsException") (by decide +kernel)) (hts (.initialized "java/lang/IndexOutOfBoundsException") (by decide +kernel)) (fun w h => hts w (List.mem_cons_of_mem _ (List.mem_append_right _ h))) (by decide +kernel) hW (hl.1.trans hml.symm) dX4_thingNumbered_25 dX4_thingNumbered_28 dX4_thingNumbered_29 dX4_thingNumbered_31 dX4_thingNumbered_34 ⟨hout, hlocks⟩ (Nat.le_of_ble_eq_true rfl) (Nat.le_of_ble_eq_true rfl) ⟨Nat.le_of_ble_eq_true rfl, Nat.le_of_ble_eq_true rfl⟩ (⟨rfl, fun h => by unfold pT at h; (first | omega | (rw [nI_toInt (by omega)] at h; omega))⟩) ⟨Nat.le_of_ble_eq_true rfl, Nat.le_of_ble_eq_true rfl⟩
  · -- lt not
    have c_1 : ¬ ((x).toInt < ((0 : Int32)).toInt) := fun h => c_1 (Int32.lt_iff_toInt_lt.mpr h)
    rw [x_t0] at c_1
    refine lv_iload_n hx hb dX4_thingNumbered_4 rfl (lv_at hl 1 rfl) ?_
    refine lv_bipush (v := nI (10)) hx hb dX4_thingNumbered_5 (by decide +kernel) ?_
    refine lv_icmp_ge (tgt := 19) hx hb dX4_thingNumbered_7 (by decide) (fun c_7 => ?_) (fun c_7 => ?_)
    · -- ge taken
      have c_7 := Int32.le_iff_toInt_le.mp c_7
      rw [nI_toInt (n := 10) (by omega)] at c_7
      refine lv_null hx hb dX4_thingNumbered_19 ?_
      refine lv_astore_nN (lv' := [(2, .null), (0, .ref (xa 0 0)), (1, .int (x))]) hx hb dX4_thingNumbered_20 rfl hl (by decide) rfl (fun ls hl => ?_)
      have hl : lv_has ls 3 [(0, .ref (xa 0 0)), (1, .int (x)), (2, .null)] := lv_sub hl [1, 2, 0] rfl
      refine lv_aload_nN hx hb dX4_thingNumbered_21 rfl (lv_at hl 2 rfl) ?_
      refine lv_ifnonnullN hx hb dX4_thingNumbered_22 ?_
      exact y_throw (cls := xIob) (text := "there is no such thing") hx hb hst0 hown ce_iob (hts (.classLink RX4 157 "java/lang/IndexOutOfBoundsException") (by decide +kernel)) (hts (.initialized "java/lang/IndexOutOfBoundsException") (by decide +kernel)) (fun w h => hts w (List.mem_cons_of_mem _ (List.mem_append_right _ h))) (by decide +kernel) hW (hl.1.trans hml.symm) dX4_thingNumbered_25 dX4_thingNumbered_28 dX4_thingNumbered_29 dX4_thingNumbered_31 dX4_thingNumbered_34 ⟨hout, hlocks⟩ (Nat.le_of_ble_eq_true rfl) (Nat.le_of_ble_eq_true rfl) ⟨Nat.le_of_ble_eq_true rfl, Nat.le_of_ble_eq_true rfl⟩ (⟨rfl, fun h => by unfold pT at h; (first | omega | (rw [nI_toInt (by omega)] at h; omega))⟩) ⟨Nat.le_of_ble_eq_true rfl, Nat.le_of_ble_eq_true rfl⟩
    · -- ge not
      have c_7 : ¬ ((nI (10)).toInt ≤ (x).toInt) := fun h => c_7 (Int32.le_iff_toInt_le.mpr h)
      rw [nI_toInt (n := 10) (by omega)] at c_7
      obtain ⟨i, hi0, rfl⟩ := x_nat (n := 10) (x := x) (by omega) (by omega)
      by_cases hin : i < σ 12 0
      ·
        refine lv_aload_n hx hb dX4_thingNumbered_10 rfl (lv_at hl 0 rfl) ?_
        refine x_get hx hb hts hin4 hown hW 0 0 (xg_x G0 D xa σ τ) rfl 6 (by decide) (hts (.fieldLink RX4 31 "Restitutory" "things" "[LRestitutory$Thing;") (by decide +kernel)) rfl (v := .ref (xa 4 0)) (rfl) dX4_thingNumbered_11 ?_
        refine lv_iload_n hx hb dX4_thingNumbered_14 rfl (lv_at hl 1 rfl) ?_
        refine x_ald2 hx hb hW 4 0 2 rfl (xg_ta G0 D xa σ τ) (i) (by omega) (by omega) (v := .ref (xa 13 i)) (by show va_rf (if _ then _ else _) = _; rw [if_pos hin]; rfl) dX4_thingNumbered_15 ?_
        refine lv_goto (tgt := 20) hx hb dX4_thingNumbered_16 (by decide) ?_
        refine lv_astore_n (lv' := [(2, .ref (xa 13 i)), (0, .ref (xa 0 0)), (1, .int (nI (i)))]) hx hb dX4_thingNumbered_20 rfl hl (by decide) rfl (fun ls hl => ?_)
        have hl : lv_has ls 3 [(0, .ref (xa 0 0)), (1, .int (nI (i))), (2, .ref (xa 13 i))] := lv_sub hl [1, 2, 0] rfl
        refine lv_aload_n hx hb dX4_thingNumbered_21 rfl (lv_at hl 2 rfl) ?_
        refine lv_ifnonnull (tgt := 35) hx hb dX4_thingNumbered_22 (by decide) ?_
        refine lv_aload_n hx hb dX4_thingNumbered_35 rfl (lv_at hl 2 rfl) ?_
        exact ye_r hx hb hr hlocks hW ⟨i, hin, rfl, rfl, rfl⟩ (Nat.le_of_ble_eq_true rfl) (Nat.le_of_ble_eq_true rfl) dX4_thingNumbered_36
      ·
        refine lv_aload_n hx hb dX4_thingNumbered_10 rfl (lv_at hl 0 rfl) ?_
        refine x_get hx hb hts hin4 hown hW 0 0 (xg_x G0 D xa σ τ) rfl 6 (by decide) (hts (.fieldLink RX4 31 "Restitutory" "things" "[LRestitutory$Thing;") (by decide +kernel)) rfl (v := .ref (xa 4 0)) (rfl) dX4_thingNumbered_11 ?_
        refine lv_iload_n hx hb dX4_thingNumbered_14 rfl (lv_at hl 1 rfl) ?_
        refine x_ald2 hx hb hW 4 0 2 rfl (xg_ta G0 D xa σ τ) (i) (by omega) (by omega) (v := .null) (by show va_rf (if _ then _ else _) = _; rw [if_neg hin]; rfl) dX4_thingNumbered_15 ?_
        refine lv_goto (tgt := 20) hx hb dX4_thingNumbered_16 (by decide) ?_
        refine lv_astore_nN (lv' := [(2, .null), (0, .ref (xa 0 0)), (1, .int (nI (i)))]) hx hb dX4_thingNumbered_20 rfl hl (by decide) rfl (fun ls hl => ?_)
        have hl : lv_has ls 3 [(0, .ref (xa 0 0)), (1, .int (nI (i))), (2, .null)] := lv_sub hl [1, 2, 0] rfl
        refine lv_aload_nN hx hb dX4_thingNumbered_21 rfl (lv_at hl 2 rfl) ?_
        refine lv_ifnonnullN hx hb dX4_thingNumbered_22 ?_
        exact y_throw (cls := xIob) (text := "there is no such thing") hx hb hst0 hown ce_iob (hts (.classLink RX4 157 "java/lang/IndexOutOfBoundsException") (by decide +kernel)) (hts (.initialized "java/lang/IndexOutOfBoundsException") (by decide +kernel)) (fun w h => hts w (List.mem_cons_of_mem _ (List.mem_append_right _ h))) (by decide +kernel) hW (hl.1.trans hml.symm) dX4_thingNumbered_25 dX4_thingNumbered_28 dX4_thingNumbered_29 dX4_thingNumbered_31 dX4_thingNumbered_34 ⟨hout, hlocks⟩ (Nat.le_of_ble_eq_true rfl) (Nat.le_of_ble_eq_true rfl) ⟨Nat.le_of_ble_eq_true rfl, Nat.le_of_ble_eq_true rfl⟩ (⟨rfl, fun h => by unfold pT at h; (first | omega | (rw [nI_toInt (by omega)] at h; omega))⟩) ⟨Nat.le_of_ble_eq_true rfl, Nat.le_of_ble_eq_true rfl⟩

set_option maxHeartbeats 4000000 in
set_option maxRecDepth 100000 in
theorem c_X4_stationNumbered (l : Launch) (hst0 : l.stackTraces = false) (D : xD) (sa : Nat → Nat) (xa : xA) (G0 : xG) (σ : Sg) (τ : Tg) (hg : Gd σ) (hL : LL σ τ) (t x : Int32) : xXr l yX4_stationNumbered wsX4_stationNumbered ({ frames := 12, cells := 2, slots := 12, locals := 300 } : Room) D sa xa (xGs G0 D xa σ τ) [.ref (xa 0 0), .int t, .int x] (fun a u => ∃ i k, i < σ 12 0 ∧ k < σ 11 i ∧ t = nI i ∧ x = nI k ∧ a = xa 15 (8 * i + k) ∧ u = (xa, xGs G0 D xa σ τ)) (fun E => E = xIob ∧ ¬ pS σ t x) 2 12 := by
  have hB := hg.1
  have h5 := hg.2.1.1
  have h7 := hg.2.1.2.1
  have h12 := hg.2.1.2.2.1
  have hy0 := hg.2.1.2.2.2.1
  have hy1 := hg.2.1.2.2.2.2
  have hm := hg.hm
  have hs8 := hg.hs8
  intro sz
  refine vx_ofW (cc := cX4_stationNumbered) (maxL := 5) (ret := (some (.object "Restitutory$Station"))) (by decide +kernel) rfl ?_
  intro p e s m args below meth c s₁ B hml hout hv
  obtain ⟨rfl, hsz, hv2⟩ := hv
  subst hsz
  have hx := B.exec
  have hb := B.bytes
  have hr := B.returns
  have hts := atoms_spec (ws := wsX4_stationNumbered) B.pre
  have hown : s.vm.findClass RX4 = some m.cls := findClass_of_methodNamed B.named
  have hlocks := B.notSynchronized
  have hin3 : ∀ w ∈ wsX30, w ∈ wsX4_stationNumbered := by decide +kernel
  have hin4 : ∀ w ∈ wsX40, w ∈ wsX4_stationNumbered := by decide +kernel
  have hW := xW.start (s := s) ⟨rfl, hv2⟩
  clear hv2
  generalize xAw xa (xGs G0 D xa σ τ) s.heap.size = A at hW ⊢
  have hl := lv_entry ([.ref (xa 0 0), .int (t), .int (x)]) (n := 5) (Nat.le_of_ble_eq_true rfl)
  rw [lg_entry_eq]
  generalize (lg_sl ([.ref (xa 0 0), .int (t), .int (x)]) ++ List.replicate (5 - (lg_sl ([.ref (xa 0 0), .int (t), .int (x)])).length) Slot.unset).toArray = ls at hl ⊢
  have hl : lv_has ls 5 [(0, .ref (xa 0 0)), (1, .int (t)), (2, .int (x))] := hl
  refine lv_aload_n hx hb dX4_stationNumbered_0 rfl (lv_at hl 0 rfl) ?_
  refine lv_iload_n hx hb dX4_stationNumbered_1 rfl (lv_at hl 1 rfl) ?_
  refine yv_r (k := 0) (i := 0) (As := [.int (t)]) (rest := []) ⟨hx, hb, hml, hown, hts⟩ (c_X4_thingNumbered l hst0 D sa xa G0 σ τ hg hL t) (cwV 1 hts gX4_stationNumbered_X4_thingNumbered rfl rfl rfl (by decide +kernel) ⟨Nat.le_of_ble_eq_true rfl, Nat.le_of_ble_eq_true rfl⟩) ⟨hout, hlocks⟩ (fun E h => ⟨h.1, fun h2 => h.2 h2.1⟩) ⟨Nat.le_of_ble_eq_true rfl, Nat.le_of_ble_eq_true rfl⟩ hW (xg_x G0 D xa σ τ) rfl rfl rfl rfl hl.1 (Nat.le_of_ble_eq_true rfl) dX4_stationNumbered_2 ⟨Nat.le_of_ble_eq_true rfl, Nat.le_of_ble_eq_true rfl⟩ (fun r_2 xa1 G1 H locs hp hW => ?_)
  obtain ⟨ti, hti, rfl, ha_2, hu⟩ := hp
  cases hu
  subst ha_2
  refine lv_astore_n (lv' := [(3, .ref (xa 13 ti)), (0, .ref (xa 0 0)), (1, .int (nI (ti))), (2, .int (x))]) hx hb dX4_stationNumbered_5 rfl hl (by decide) rfl (fun ls hl => ?_)
  have hl : lv_has ls 5 [(0, .ref (xa 0 0)), (1, .int (nI (ti))), (2, .int (x)), (3, .ref (xa 13 ti))] := lv_sub hl [1, 2, 3, 0] rfl
  refine lv_iload_n hx hb dX4_stationNumbered_6 rfl (lv_at hl 2 rfl) ?_
  refine lv_if_lt (tgt := 25) hx hb dX4_stationNumbered_7 (by decide) (fun c_7 => ?_) (fun c_7 => ?_)
  · -- lt taken
    have c_7 := Int32.lt_iff_toInt_lt.mp c_7
    rw [x_t0] at c_7
    refine lv_null hx hb dX4_stationNumbered_25 ?_
    refine lv_astoreN (lv' := [(4, .null), (0, .ref (xa 0 0)), (1, .int (nI (ti))), (2, .int (x)), (3, .ref (xa 13 ti))]) hx hb dX4_stationNumbered_26 hl (by decide) rfl (fun ls hl => ?_)
    have hl : lv_has ls 5 [(0, .ref (xa 0 0)), (1, .int (nI (ti))), (2, .int (x)), (3, .ref (xa 13 ti)), (4, .null)] := lv_sub hl [1, 2, 3, 4, 0] rfl
    refine lv_aloadN hx hb dX4_stationNumbered_28 (lv_at hl 4 rfl) ?_
    refine lv_ifnonnullN hx hb dX4_stationNumbered_30 ?_
    exact y_throw (cls := xIob) (text := "there is no such station") hx hb hst0 hown ce_iob (hts (.classLink RX4 157 "java/lang/IndexOutOfBoundsException") (by decide +kernel)) (hts (.initialized "java/lang/IndexOutOfBoundsException") (by decide +kernel)) (fun w h => hts w (List.mem_cons_of_mem _ (List.mem_append_right _ h))) (by decide +kernel) hW (hl.1.trans hml.symm) dX4_stationNumbered_33 dX4_stationNumbered_36 dX4_stationNumbered_37 dX4_stationNumbered_39 dX4_stationNumbered_42 ⟨hout, hlocks⟩ (Nat.le_of_ble_eq_true rfl) (Nat.le_of_ble_eq_true rfl) ⟨Nat.le_of_ble_eq_true rfl, Nat.le_of_ble_eq_true rfl⟩ (⟨rfl, fun h => by have h2 := h.2; rw [xn_nI (by omega)] at h2; have h8 := hs8 ti; (first | omega | (rw [nI_toInt (by omega)] at h2; omega))⟩) ⟨Nat.le_of_ble_eq_true rfl, Nat.le_of_ble_eq_true rfl⟩
  · -- lt not
    have c_7 : ¬ ((x).toInt < ((0 : Int32)).toInt) := fun h => c_7 (Int32.lt_iff_toInt_lt.mpr h)
    rw [x_t0] at c_7
    refine lv_iload_n hx hb dX4_stationNumbered_10 rfl (lv_at hl 2 rfl) ?_
    refine lv_bipush (v := nI (8)) hx hb dX4_stationNumbered_11 (by decide +kernel) ?_
    refine lv_icmp_ge (tgt := 25) hx hb dX4_stationNumbered_13 (by decide) (fun c_13 => ?_) (fun c_13 => ?_)
    · -- ge taken
      have c_13 := Int32.le_iff_toInt_le.mp c_13
      rw [nI_toInt (n := 8) (by omega)] at c_13
      refine lv_null hx hb dX4_stationNumbered_25 ?_
      refine lv_astoreN (lv' := [(4, .null), (0, .ref (xa 0 0)), (1, .int (nI (ti))), (2, .int (x)), (3, .ref (xa 13 ti))]) hx hb dX4_stationNumbered_26 hl (by decide) rfl (fun ls hl => ?_)
      have hl : lv_has ls 5 [(0, .ref (xa 0 0)), (1, .int (nI (ti))), (2, .int (x)), (3, .ref (xa 13 ti)), (4, .null)] := lv_sub hl [1, 2, 3, 4, 0] rfl
      refine lv_aloadN hx hb dX4_stationNumbered_28 (lv_at hl 4 rfl) ?_
      refine lv_ifnonnullN hx hb dX4_stationNumbered_30 ?_
      exact y_throw (cls := xIob) (text := "there is no such station") hx hb hst0 hown ce_iob (hts (.classLink RX4 157 "java/lang/IndexOutOfBoundsException") (by decide +kernel)) (hts (.initialized "java/lang/IndexOutOfBoundsException") (by decide +kernel)) (fun w h => hts w (List.mem_cons_of_mem _ (List.mem_append_right _ h))) (by decide +kernel) hW (hl.1.trans hml.symm) dX4_stationNumbered_33 dX4_stationNumbered_36 dX4_stationNumbered_37 dX4_stationNumbered_39 dX4_stationNumbered_42 ⟨hout, hlocks⟩ (Nat.le_of_ble_eq_true rfl) (Nat.le_of_ble_eq_true rfl) ⟨Nat.le_of_ble_eq_true rfl, Nat.le_of_ble_eq_true rfl⟩ (⟨rfl, fun h => by have h2 := h.2; rw [xn_nI (by omega)] at h2; have h8 := hs8 ti; (first | omega | (rw [nI_toInt (by omega)] at h2; omega))⟩) ⟨Nat.le_of_ble_eq_true rfl, Nat.le_of_ble_eq_true rfl⟩
    · -- ge not
      have c_13 : ¬ ((nI (8)).toInt ≤ (x).toInt) := fun h => c_13 (Int32.le_iff_toInt_le.mpr h)
      rw [nI_toInt (n := 8) (by omega)] at c_13
      obtain ⟨k, hk0, rfl⟩ := x_nat (n := 8) (x := x) (by omega) (by omega)
      by_cases hin : k < σ 11 ti
      ·
        refine lv_aload_n hx hb dX4_stationNumbered_16 rfl (lv_at hl 3 rfl) ?_
        refine x_get hx hb hts hin3 hown hW 13 ti (xg_t G0 D xa σ τ (i := ti) (by omega)) rfl 2 (by decide) (hts (.fieldLink RX4 118 "Restitutory$Thing" "stations" "[LRestitutory$Station;") (by decide +kernel)) rfl (v := .ref (xa 14 ti)) (rfl) dX4_stationNumbered_17 ?_
        refine lv_iload_n hx hb dX4_stationNumbered_20 rfl (lv_at hl 2 rfl) ?_
        refine x_ald2 hx hb hW 14 ti 3 rfl (xg_sa G0 D xa σ τ (i := ti) (by omega)) (k) (by omega) (by omega) (v := .ref (xa 15 (8 * ti + k))) (by show va_rf (if _ then _ else _) = _; rw [if_pos hin]; rfl) dX4_stationNumbered_21 ?_
        refine lv_goto (tgt := 26) hx hb dX4_stationNumbered_22 (by decide) ?_
        refine lv_astore (lv' := [(4, .ref (xa 15 (8 * ti + k))), (0, .ref (xa 0 0)), (1, .int (nI (ti))), (2, .int (nI (k))), (3, .ref (xa 13 ti))]) hx hb dX4_stationNumbered_26 hl (by decide) rfl (fun ls hl => ?_)
        have hl : lv_has ls 5 [(0, .ref (xa 0 0)), (1, .int (nI (ti))), (2, .int (nI (k))), (3, .ref (xa 13 ti)), (4, .ref (xa 15 (8 * ti + k)))] := lv_sub hl [1, 2, 3, 4, 0] rfl
        refine lv_aload hx hb dX4_stationNumbered_28 (lv_at hl 4 rfl) ?_
        refine lv_ifnonnull (tgt := 43) hx hb dX4_stationNumbered_30 (by decide) ?_
        refine lv_aload hx hb dX4_stationNumbered_43 (lv_at hl 4 rfl) ?_
        exact ye_r hx hb hr hlocks hW ⟨ti, k, hti, hin, rfl, rfl, rfl, rfl⟩ (Nat.le_of_ble_eq_true rfl) (Nat.le_of_ble_eq_true rfl) dX4_stationNumbered_45
      ·
        refine lv_aload_n hx hb dX4_stationNumbered_16 rfl (lv_at hl 3 rfl) ?_
        refine x_get hx hb hts hin3 hown hW 13 ti (xg_t G0 D xa σ τ (i := ti) (by omega)) rfl 2 (by decide) (hts (.fieldLink RX4 118 "Restitutory$Thing" "stations" "[LRestitutory$Station;") (by decide +kernel)) rfl (v := .ref (xa 14 ti)) (rfl) dX4_stationNumbered_17 ?_
        refine lv_iload_n hx hb dX4_stationNumbered_20 rfl (lv_at hl 2 rfl) ?_
        refine x_ald2 hx hb hW 14 ti 3 rfl (xg_sa G0 D xa σ τ (i := ti) (by omega)) (k) (by omega) (by omega) (v := .null) (by show va_rf (if _ then _ else _) = _; rw [if_neg hin]; rfl) dX4_stationNumbered_21 ?_
        refine lv_goto (tgt := 26) hx hb dX4_stationNumbered_22 (by decide) ?_
        refine lv_astoreN (lv' := [(4, .null), (0, .ref (xa 0 0)), (1, .int (nI (ti))), (2, .int (nI (k))), (3, .ref (xa 13 ti))]) hx hb dX4_stationNumbered_26 hl (by decide) rfl (fun ls hl => ?_)
        have hl : lv_has ls 5 [(0, .ref (xa 0 0)), (1, .int (nI (ti))), (2, .int (nI (k))), (3, .ref (xa 13 ti)), (4, .null)] := lv_sub hl [1, 2, 3, 4, 0] rfl
        refine lv_aloadN hx hb dX4_stationNumbered_28 (lv_at hl 4 rfl) ?_
        refine lv_ifnonnullN hx hb dX4_stationNumbered_30 ?_
        exact y_throw (cls := xIob) (text := "there is no such station") hx hb hst0 hown ce_iob (hts (.classLink RX4 157 "java/lang/IndexOutOfBoundsException") (by decide +kernel)) (hts (.initialized "java/lang/IndexOutOfBoundsException") (by decide +kernel)) (fun w h => hts w (List.mem_cons_of_mem _ (List.mem_append_right _ h))) (by decide +kernel) hW (hl.1.trans hml.symm) dX4_stationNumbered_33 dX4_stationNumbered_36 dX4_stationNumbered_37 dX4_stationNumbered_39 dX4_stationNumbered_42 ⟨hout, hlocks⟩ (Nat.le_of_ble_eq_true rfl) (Nat.le_of_ble_eq_true rfl) ⟨Nat.le_of_ble_eq_true rfl, Nat.le_of_ble_eq_true rfl⟩ (⟨rfl, fun h => by have h2 := h.2; rw [xn_nI (by omega)] at h2; have h8 := hs8 ti; (first | omega | (rw [nI_toInt (by omega)] at h2; omega))⟩) ⟨Nat.le_of_ble_eq_true rfl, Nat.le_of_ble_eq_true rfl⟩

set_option maxHeartbeats 4000000 in
set_option maxRecDepth 100000 in
theorem c_X4_numberOf_n (l : Launch) (D : xD) (sa : Nat → Nat) (xa : xA) (G0 : xG) (σ : Sg) (τ : Tg) (hg : Gd σ)  : xCi l yX4_numberOf wsX4_numberOf ({ frames := 10, cells := 0, slots := 0, locals := 200 } : Room) D sa xa (xGs G0 D xa σ τ) [.null] (fun r u => u = (xa, xGs G0 D xa σ τ) ∧ r = -1) 0 0 := by
  have hB := hg.1
  have h5 := hg.2.1.1
  have h7 := hg.2.1.2.1
  have h12 := hg.2.1.2.2.1
  have hy0 := hg.2.1.2.2.2.1
  have hy1 := hg.2.1.2.2.2.2
  have hm := hg.hm
  have hs8 := hg.hs8
  intro sz
  refine Met.ofW (cc := cX4_numberOf) (maxL := 1) (ret := (some .int)) (by decide +kernel) rfl ?_
  intro p e s m args below meth c s₁ B hml hv
  obtain ⟨rfl, hsz, hv2⟩ := hv
  subst hsz
  have hx := B.exec
  have hb := B.bytes
  have hr := B.returns
  have hts := atoms_spec (ws := wsX4_numberOf) B.pre
  have hown : s.vm.findClass RX4 = some m.cls := findClass_of_methodNamed B.named
  have hlocks := B.notSynchronized
  have hin1 : ∀ w ∈ wsX10, w ∈ wsX4_numberOf := by decide +kernel
  have hW := xW.start (s := s) ⟨rfl, hv2⟩
  clear hv2
  generalize xAw xa (xGs G0 D xa σ τ) s.heap.size = A at hW ⊢
  have hl := lv_entry ([.null]) (n := 1) (Nat.le_of_ble_eq_true rfl)
  rw [lg_entry_eq]
  generalize (lg_sl ([.null]) ++ List.replicate (1 - (lg_sl ([.null])).length) Slot.unset).toArray = ls at hl ⊢
  have hl : lv_has ls 1 [(0, .null)] := hl
  refine lv_aload_nN hx hb dX4_numberOf_0 rfl (lv_at hl 0 rfl) ?_
  refine lv_ifnonnullN hx hb dX4_numberOf_1 ?_
  refine lv_iconst (v := -1) hx hb dX4_numberOf_4 (by decide +kernel) ?_
  refine lv_goto (tgt := 12) hx hb dX4_numberOf_5 (by decide) ?_
  exact xe_i hx hb hr rfl hlocks hW ⟨rfl, rfl⟩ (Nat.le_of_ble_eq_true rfl) (Nat.le_of_ble_eq_true rfl) dX4_numberOf_12

set_option maxHeartbeats 4000000 in
set_option maxRecDepth 100000 in
theorem c_X4_numberOf_s (l : Launch) (D : xD) (sa : Nat → Nat) (xa : xA) (G0 : xG) (σ : Sg) (τ : Tg) (hg : Gd σ) (i : Nat) (hi : i < σ 5 0) : xCi l yX4_numberOf wsX4_numberOf ({ frames := 10, cells := 0, slots := 0, locals := 200 } : Room) D sa xa (xGs G0 D xa σ τ) [.ref (xa 10 i)] (fun r u => u = (xa, xGs G0 D xa σ τ) ∧ r = nI i) 0 0 := by
  have hB := hg.1
  have h5 := hg.2.1.1
  have h7 := hg.2.1.2.1
  have h12 := hg.2.1.2.2.1
  have hy0 := hg.2.1.2.2.2.1
  have hy1 := hg.2.1.2.2.2.2
  have hm := hg.hm
  have hs8 := hg.hs8
  intro sz
  refine Met.ofW (cc := cX4_numberOf) (maxL := 1) (ret := (some .int)) (by decide +kernel) rfl ?_
  intro p e s m args below meth c s₁ B hml hv
  obtain ⟨rfl, hsz, hv2⟩ := hv
  subst hsz
  have hx := B.exec
  have hb := B.bytes
  have hr := B.returns
  have hts := atoms_spec (ws := wsX4_numberOf) B.pre
  have hown : s.vm.findClass RX4 = some m.cls := findClass_of_methodNamed B.named
  have hlocks := B.notSynchronized
  have hin1 : ∀ w ∈ wsX10, w ∈ wsX4_numberOf := by decide +kernel
  have hW := xW.start (s := s) ⟨rfl, hv2⟩
  clear hv2
  generalize xAw xa (xGs G0 D xa σ τ) s.heap.size = A at hW ⊢
  have hl := lv_entry ([.ref (xa 10 i)]) (n := 1) (Nat.le_of_ble_eq_true rfl)
  rw [lg_entry_eq]
  generalize (lg_sl ([.ref (xa 10 i)]) ++ List.replicate (1 - (lg_sl ([.ref (xa 10 i)])).length) Slot.unset).toArray = ls at hl ⊢
  have hl : lv_has ls 1 [(0, .ref (xa 10 i))] := hl
  refine lv_aload_n hx hb dX4_numberOf_0 rfl (lv_at hl 0 rfl) ?_
  refine lv_ifnonnull (tgt := 8) hx hb dX4_numberOf_1 (by decide) ?_
  refine lv_aload_n hx hb dX4_numberOf_8 rfl (lv_at hl 0 rfl) ?_
  refine x_get hx hb hts hin1 hown hW 10 i (xg_p G0 D xa σ τ (i := i) (by omega)) rfl 0 (by decide) (hts (.fieldLink RX4 202 "Restitutory$Person" "number" "I") (by decide +kernel)) rfl (v := .int (nI (i))) (rfl) dX4_numberOf_9 ?_
  exact xe_i hx hb hr rfl hlocks hW ⟨rfl, rfl⟩ (Nat.le_of_ble_eq_true rfl) (Nat.le_of_ble_eq_true rfl) dX4_numberOf_12

theorem c_X4_numberOf (l : Launch) (D : xD) (sa : Nat → Nat) (xa : xA) (G0 : xG) (σ : Sg) (τ : Tg) (hg : Gd σ) (o : Option Nat) (ho : ∀ i, o = some i → i < σ 5 0) : xCi l yX4_numberOf wsX4_numberOf ({ frames := 10, cells := 0, slots := 0, locals := 200 } : Room) D sa xa (xGs G0 D xa σ τ) [va_rf (o.map (xa 10))] (fun r u => u = (xa, xGs G0 D xa σ τ) ∧ r = oi o) 0 0 := by
  cases o with
  | none => exact c_X4_numberOf_n l D sa xa G0 σ τ hg
  | some i => exact c_X4_numberOf_s l D sa xa G0 σ τ hg i (ho i rfl)

set_option maxHeartbeats 4000000 in
set_option maxRecDepth 100000 in
theorem c_X0_strikes (l : Launch) (D : xD) (sa : Nat → Nat) (xa : xA) (G0 : xG) (σ : Sg) (τ : Tg) (hg : Gd σ) (k g a y : Nat) (hk : k < σ 7 0) (hgg : g < 65536) (haa : a < 65536) (hyy : y < 65536) : xCi l yX0_strikes wsX0_strikes ({ frames := 10, cells := 0, slots := 0, locals := 200 } : Room) D sa xa (xGs G0 D xa σ τ) [.ref (xa 12 k), .int (nI g), .int (nI a), .int (nI y)] (fun r u => u = (xa, xGs G0 D xa σ τ) ∧ tv r (σ 6 (4 * k) = g ∧ σ 6 (4 * k + 1) = a ∧ σ 6 (4 * k + 2) ≤ y ∧ y ≤ σ 6 (4 * k + 3))) 0 0 := by
  have hB := hg.1
  have h5 := hg.2.1.1
  have h7 := hg.2.1.2.1
  have h12 := hg.2.1.2.2.1
  have hy0 := hg.2.1.2.2.2.1
  have hy1 := hg.2.1.2.2.2.2
  have hm := hg.hm
  have hs8 := hg.hs8
  intro sz
  refine Met.ofW (cc := cX0_strikes) (maxL := 4) (ret := (some .boolean)) (by decide +kernel) rfl ?_
  intro p e s m args below meth c s₁ B hml hv
  obtain ⟨rfl, hsz, hv2⟩ := hv
  subst hsz
  have hx := B.exec
  have hb := B.bytes
  have hr := B.returns
  have hts := atoms_spec (ws := wsX0_strikes) B.pre
  have hown : s.vm.findClass RX0 = some m.cls := findClass_of_methodNamed B.named
  have hlocks := B.notSynchronized
  have hin0 : ∀ w ∈ wsX00, w ∈ wsX0_strikes := by decide +kernel
  have hW := xW.start (s := s) ⟨rfl, hv2⟩
  clear hv2
  generalize xAw xa (xGs G0 D xa σ τ) s.heap.size = A at hW ⊢
  have hl := lv_entry ([.ref (xa 12 k), .int (nI (g)), .int (nI (a)), .int (nI (y))]) (n := 4) (Nat.le_of_ble_eq_true rfl)
  rw [lg_entry_eq]
  generalize (lg_sl ([.ref (xa 12 k), .int (nI (g)), .int (nI (a)), .int (nI (y))]) ++ List.replicate (4 - (lg_sl ([.ref (xa 12 k), .int (nI (g)), .int (nI (a)), .int (nI (y))])).length) Slot.unset).toArray = ls at hl ⊢
  have hl : lv_has ls 4 [(0, .ref (xa 12 k)), (1, .int (nI (g))), (2, .int (nI (a))), (3, .int (nI (y)))] := hl
  refine lv_aload_n hx hb dX0_strikes_0 rfl (lv_at hl 0 rfl) ?_
  refine x_get hx hb hts hin0 hown hW 12 k (xg_e G0 D xa σ τ (i := k) (by omega)) rfl 0 (by decide) (hts (.fieldLink RX0 7 "Restitutory$Persecution" "group" "I") (by decide +kernel)) rfl (v := .int (nI (σ 6 (4 * k)))) (rfl) dX0_strikes_1 ?_
  have b_1 := hB 6 (4 * k)
  refine lv_iload_n hx hb dX0_strikes_4 rfl (lv_at hl 1 rfl) ?_
  refine lv_icmp_ne (tgt := 36) hx hb dX0_strikes_5 (by decide) (fun c_5 => ?_) (fun c_5 => ?_)
  · -- ne taken
    have c_5 : ¬ (σ 6 (4 * k) = g) := fun h_ => c_5 ((x_eqN (a := σ 6 (4 * k)) (b := g) (by omega) (by omega)).mpr h_)
    refine lv_iconst (v := nI (0)) hx hb dX0_strikes_36 (by decide +kernel) ?_
    exact xe_i hx hb hr rfl hlocks hW ⟨rfl, tv.zero (fun h => c_5 h.1)⟩ (Nat.le_of_ble_eq_true rfl) (Nat.le_of_ble_eq_true rfl) dX0_strikes_37
  · -- ne not
    have c_5 := (x_eqN (a := σ 6 (4 * k)) (b := g) (by omega) (by omega)).mp c_5
    refine lv_aload_n hx hb dX0_strikes_8 rfl (lv_at hl 0 rfl) ?_
    refine x_get hx hb hts hin0 hown hW 12 k (xg_e G0 D xa σ τ (i := k) (by omega)) rfl 1 (by decide) (hts (.fieldLink RX0 13 "Restitutory$Persecution" "land" "I") (by decide +kernel)) rfl (v := .int (nI (σ 6 (4 * k + 1)))) (rfl) dX0_strikes_9 ?_
    have b_9 := hB 6 (4 * k + 1)
    refine lv_iload_n hx hb dX0_strikes_12 rfl (lv_at hl 2 rfl) ?_
    refine lv_icmp_ne (tgt := 36) hx hb dX0_strikes_13 (by decide) (fun c_13 => ?_) (fun c_13 => ?_)
    · -- ne taken
      have c_13 : ¬ (σ 6 (4 * k + 1) = a) := fun h_ => c_13 ((x_eqN (a := σ 6 (4 * k + 1)) (b := a) (by omega) (by omega)).mpr h_)
      refine lv_iconst (v := nI (0)) hx hb dX0_strikes_36 (by decide +kernel) ?_
      exact xe_i hx hb hr rfl hlocks hW ⟨rfl, tv.zero (fun h => c_13 h.2.1)⟩ (Nat.le_of_ble_eq_true rfl) (Nat.le_of_ble_eq_true rfl) dX0_strikes_37
    · -- ne not
      have c_13 := (x_eqN (a := σ 6 (4 * k + 1)) (b := a) (by omega) (by omega)).mp c_13
      refine lv_aload_n hx hb dX0_strikes_16 rfl (lv_at hl 0 rfl) ?_
      refine x_get hx hb hts hin0 hown hW 12 k (xg_e G0 D xa σ τ (i := k) (by omega)) rfl 2 (by decide) (hts (.fieldLink RX0 16 "Restitutory$Persecution" "from" "I") (by decide +kernel)) rfl (v := .int (nI (σ 6 (4 * k + 2)))) (rfl) dX0_strikes_17 ?_
      have b_17 := hB 6 (4 * k + 2)
      refine lv_iload_n hx hb dX0_strikes_20 rfl (lv_at hl 3 rfl) ?_
      refine lv_icmp_gt (tgt := 36) hx hb dX0_strikes_21 (by decide) (fun c_21 => ?_) (fun c_21 => ?_)
      · -- gt taken
        have c_21 := Int32.lt_iff_toInt_lt.mp c_21
        rw [nI_toInt (n := σ 6 (4 * k + 2)) (by omega)] at c_21
        rw [nI_toInt (n := y) (by omega)] at c_21
        refine lv_iconst (v := nI (0)) hx hb dX0_strikes_36 (by decide +kernel) ?_
        exact xe_i hx hb hr rfl hlocks hW ⟨rfl, tv.zero (fun h => by omega)⟩ (Nat.le_of_ble_eq_true rfl) (Nat.le_of_ble_eq_true rfl) dX0_strikes_37
      · -- gt not
        have c_21 : ¬ ((nI (y)).toInt < (nI (σ 6 (4 * k + 2))).toInt) := fun h => c_21 (Int32.lt_iff_toInt_lt.mpr h)
        rw [nI_toInt (n := σ 6 (4 * k + 2)) (by omega)] at c_21
        rw [nI_toInt (n := y) (by omega)] at c_21
        refine lv_iload_n hx hb dX0_strikes_24 rfl (lv_at hl 3 rfl) ?_
        refine lv_aload_n hx hb dX0_strikes_25 rfl (lv_at hl 0 rfl) ?_
        refine x_get hx hb hts hin0 hown hW 12 k (xg_e G0 D xa σ τ (i := k) (by omega)) rfl 3 (by decide) (hts (.fieldLink RX0 19 "Restitutory$Persecution" "to" "I") (by decide +kernel)) rfl (v := .int (nI (σ 6 (4 * k + 3)))) (rfl) dX0_strikes_26 ?_
        have b_26 := hB 6 (4 * k + 3)
        refine lv_icmp_gt (tgt := 36) hx hb dX0_strikes_29 (by decide) (fun c_29 => ?_) (fun c_29 => ?_)
        · -- gt taken
          have c_29 := Int32.lt_iff_toInt_lt.mp c_29
          rw [nI_toInt (n := y) (by omega)] at c_29
          rw [nI_toInt (n := σ 6 (4 * k + 3)) (by omega)] at c_29
          refine lv_iconst (v := nI (0)) hx hb dX0_strikes_36 (by decide +kernel) ?_
          exact xe_i hx hb hr rfl hlocks hW ⟨rfl, tv.zero (fun h => by omega)⟩ (Nat.le_of_ble_eq_true rfl) (Nat.le_of_ble_eq_true rfl) dX0_strikes_37
        · -- gt not
          have c_29 : ¬ ((nI (σ 6 (4 * k + 3))).toInt < (nI (y)).toInt) := fun h => c_29 (Int32.lt_iff_toInt_lt.mpr h)
          rw [nI_toInt (n := y) (by omega)] at c_29
          rw [nI_toInt (n := σ 6 (4 * k + 3)) (by omega)] at c_29
          refine lv_iconst (v := nI (1)) hx hb dX0_strikes_32 (by decide +kernel) ?_
          refine lv_goto (tgt := 37) hx hb dX0_strikes_33 (by decide) ?_
          exact xe_i hx hb hr rfl hlocks hW ⟨rfl, tv.one ⟨c_5, c_13, by omega, by omega⟩⟩ (Nat.le_of_ble_eq_true rfl) (Nat.le_of_ble_eq_true rfl) dX0_strikes_37

set_option maxHeartbeats 4000000 in
set_option maxRecDepth 100000 in
theorem c_X4_isDarkFor (l : Launch) (D : xD) (sa : Nat → Nat) (xa : xA) (G0 : xG) (σ : Sg) (τ : Tg) (hg : Gd σ) (i a y : Nat) (hi : i < σ 5 0) (haa : a < 65536) (hyy : y < 65536) : xCi l yX4_isDarkFor wsX4_isDarkFor ({ frames := 12, cells := 0, slots := 0, locals := 300 } : Room) D sa xa (xGs G0 D xa σ τ) [.ref (xa 0 0), .ref (xa 10 i), .int (nI a), .int (nI y)] (fun r u => u = (xa, xGs G0 D xa σ τ) ∧ tv r (sPers σ (σ 1 i) a y)) 0 0 := by
  have hB := hg.1
  have h5 := hg.2.1.1
  have h7 := hg.2.1.2.1
  have h12 := hg.2.1.2.2.1
  have hy0 := hg.2.1.2.2.2.1
  have hy1 := hg.2.1.2.2.2.2
  have hm := hg.hm
  have hs8 := hg.hs8
  intro sz
  refine Met.ofW (cc := cX4_isDarkFor) (maxL := 8) (ret := (some .boolean)) (by decide +kernel) rfl ?_
  intro p e s m args below meth c s₁ B hml hv
  obtain ⟨rfl, hsz, hv2⟩ := hv
  subst hsz
  have hx := B.exec
  have hb := B.bytes
  have hr := B.returns
  have hts := atoms_spec (ws := wsX4_isDarkFor) B.pre
  have hown : s.vm.findClass RX4 = some m.cls := findClass_of_methodNamed B.named
  have hlocks := B.notSynchronized
  have hin4 : ∀ w ∈ wsX40, w ∈ wsX4_isDarkFor := by decide +kernel
  have hin1 : ∀ w ∈ wsX10, w ∈ wsX4_isDarkFor := by decide +kernel
  have hin0 : ∀ w ∈ wsX00, w ∈ wsX4_isDarkFor := by decide +kernel
  have hW := xW.start (s := s) ⟨rfl, hv2⟩
  clear hv2
  generalize xAw xa (xGs G0 D xa σ τ) s.heap.size = A at hW ⊢
  have hl := lv_entry ([.ref (xa 0 0), .ref (xa 10 i), .int (nI (a)), .int (nI (y))]) (n := 8) (Nat.le_of_ble_eq_true rfl)
  rw [lg_entry_eq]
  generalize (lg_sl ([.ref (xa 0 0), .ref (xa 10 i), .int (nI (a)), .int (nI (y))]) ++ List.replicate (8 - (lg_sl ([.ref (xa 0 0), .ref (xa 10 i), .int (nI (a)), .int (nI (y))])).length) Slot.unset).toArray = ls at hl ⊢
  have hl : lv_has ls 8 [(0, .ref (xa 0 0)), (1, .ref (xa 10 i)), (2, .int (nI (a))), (3, .int (nI (y)))] := hl
  refine lv_aload_n hx hb dX4_isDarkFor_0 rfl (lv_at hl 0 rfl) ?_
  refine x_get hx hb hts hin4 hown hW 0 0 (xg_x G0 D xa σ τ) rfl 2 (by decide) (hts (.fieldLink RX4 17 "Restitutory" "persecutions" "[LRestitutory$Persecution;") (by decide +kernel)) rfl (v := .ref (xa 2 0)) (rfl) dX4_isDarkFor_1 ?_
  refine lv_astore (lv' := [(4, .ref (xa 2 0)), (0, .ref (xa 0 0)), (1, .ref (xa 10 i)), (2, .int (nI (a))), (3, .int (nI (y)))]) hx hb dX4_isDarkFor_4 hl (by decide) rfl (fun ls hl => ?_)
  have hl : lv_has ls 8 [(0, .ref (xa 0 0)), (1, .ref (xa 10 i)), (2, .int (nI (a))), (3, .int (nI (y))), (4, .ref (xa 2 0))] := lv_sub hl [1, 2, 3, 4, 0] rfl
  refine lv_aload hx hb dX4_isDarkFor_6 (lv_at hl 4 rfl) ?_
  refine x_len hx hb hW 2 0 1 rfl (xg_ea G0 D xa σ τ) (v := nI 20) rfl dX4_isDarkFor_8 ?_
  refine lv_istore (lv' := [(5, .int (nI (20))), (0, .ref (xa 0 0)), (1, .ref (xa 10 i)), (2, .int (nI (a))), (3, .int (nI (y))), (4, .ref (xa 2 0))]) hx hb dX4_isDarkFor_9 hl (by decide) rfl (fun ls hl => ?_)
  have hl : lv_has ls 8 [(0, .ref (xa 0 0)), (1, .ref (xa 10 i)), (2, .int (nI (a))), (3, .int (nI (y))), (4, .ref (xa 2 0)), (5, .int (nI (20)))] := lv_sub hl [1, 2, 3, 4, 5, 0] rfl
  refine lv_iconst (v := nI (0)) hx hb dX4_isDarkFor_11 (by decide +kernel) ?_
  refine lv_istore (lv' := [(6, .int (nI (0))), (0, .ref (xa 0 0)), (1, .ref (xa 10 i)), (2, .int (nI (a))), (3, .int (nI (y))), (4, .ref (xa 2 0)), (5, .int (nI (20)))]) hx hb dX4_isDarkFor_12 hl (by decide) rfl (fun ls hl => ?_)
  have hl : lv_has ls 8 [(0, .ref (xa 0 0)), (1, .ref (xa 10 i)), (2, .int (nI (a))), (3, .int (nI (y))), (4, .ref (xa 2 0)), (5, .int (nI (20))), (6, .int (nI (0)))] := lv_sub hl [1, 2, 3, 4, 5, 6, 0] rfl
  refine x_loop (X := Nat) (I := fun n xv H locs ls => n = 20 - xv ∧ xW D sa A s xa (xGs G0 D xa σ τ) H locs ∧ lv_has ls 8 [(0, .ref (xa 0 0)), (1, .ref (xa 10 i)), (2, .int (nI (a))), (3, .int (nI (y))), (4, .ref (xa 2 0)), (5, .int (nI (20))), (6, .int (nI (xv)))] ∧ (∀ j, j < xv → j < σ 7 0 → ¬ (σ 6 (4 * j) = σ 1 i ∧ σ 6 (4 * j + 1) = a ∧ σ 6 (4 * j + 2) ≤ y ∧ y ≤ σ 6 (4 * j + 3))) ∧ (xv ≤ 20)) (hd := 14) ?_ (n := _) (x := (0)) ⟨rfl, hW, hl, fun j hj => by omega, by (try dsimp only); omega⟩
  rintro n k H locs ls ⟨hn, hW, hl, hno, hk⟩ ih14
  try dsimp only at hn hW hl hno hk
  refine lv_iload hx hb dX4_isDarkFor_14 (lv_at hl 6 rfl) ?_
  refine lv_iload hx hb dX4_isDarkFor_16 (lv_at hl 5 rfl) ?_
  refine lv_icmp_ge (tgt := 55) hx hb dX4_isDarkFor_18 (by decide) (fun c_18 => ?_) (fun c_18 => ?_)
  · -- ge taken
    have c_18 := Int32.le_iff_toInt_le.mp c_18
    rw [nI_toInt (n := k) (by omega)] at c_18
    rw [nI_toInt (n := 20) (by omega)] at c_18
    refine lv_iconst (v := nI (0)) hx hb dX4_isDarkFor_55 (by decide +kernel) ?_
    exact xe_i hx hb hr rfl hlocks hW ⟨rfl, tv.zero (by rintro ⟨j, hj, h⟩; exact hno j (by omega) hj h)⟩ (Nat.le_of_ble_eq_true rfl) (Nat.le_of_ble_eq_true rfl) dX4_isDarkFor_56
  · -- ge not
    have c_18 : ¬ ((nI (20)).toInt ≤ (nI (k)).toInt) := fun h => c_18 (Int32.le_iff_toInt_le.mpr h)
    rw [nI_toInt (n := k) (by omega)] at c_18
    rw [nI_toInt (n := 20) (by omega)] at c_18
    by_cases hkn : k < σ 7 0
    ·
      refine lv_aload hx hb dX4_isDarkFor_21 (lv_at hl 4 rfl) ?_
      refine lv_iload hx hb dX4_isDarkFor_23 (lv_at hl 6 rfl) ?_
      refine x_ald2 hx hb hW 2 0 1 rfl (xg_ea G0 D xa σ τ) (k) (by omega) (by omega) (v := .ref (xa 12 k)) (by show va_rf (if _ then _ else _) = _; rw [if_pos hkn]; rfl) dX4_isDarkFor_25 ?_
      refine lv_astore (lv' := [(7, .ref (xa 12 k)), (0, .ref (xa 0 0)), (1, .ref (xa 10 i)), (2, .int (nI (a))), (3, .int (nI (y))), (4, .ref (xa 2 0)), (5, .int (nI (20))), (6, .int (nI (k)))]) hx hb dX4_isDarkFor_26 hl (by decide) rfl (fun ls hl => ?_)
      have hl : lv_has ls 8 [(0, .ref (xa 0 0)), (1, .ref (xa 10 i)), (2, .int (nI (a))), (3, .int (nI (y))), (4, .ref (xa 2 0)), (5, .int (nI (20))), (6, .int (nI (k))), (7, .ref (xa 12 k))] := lv_sub hl [1, 2, 3, 4, 5, 6, 7, 0] rfl
      refine lv_aload hx hb dX4_isDarkFor_28 (lv_at hl 7 rfl) ?_
      refine lv_ifnull hx hb dX4_isDarkFor_30 ?_
      refine lv_aload hx hb dX4_isDarkFor_33 (lv_at hl 7 rfl) ?_
      refine lv_aload_n hx hb dX4_isDarkFor_35 rfl (lv_at hl 1 rfl) ?_
      refine x_get hx hb hts hin1 hown hW 10 i (xg_p G0 D xa σ τ (i := i) (by omega)) rfl 1 (by decide) (hts (.fieldLink RX4 203 "Restitutory$Person" "group" "I") (by decide +kernel)) rfl (v := .int (nI (σ 1 i))) (rfl) dX4_isDarkFor_36 ?_
      have b_36 := hB 1 i
      refine lv_iload_n hx hb dX4_isDarkFor_39 rfl (lv_at hl 2 rfl) ?_
      refine lv_iload_n hx hb dX4_isDarkFor_40 rfl (lv_at hl 3 rfl) ?_
      refine xv_i (k := 12) (i := k) (As := [.int (nI (σ 1 i)), .int (nI (a)), .int (nI (y))]) (rest := []) ⟨hx, hb, hml, hown, hts⟩ (c_X0_strikes l D sa xa G0 σ τ hg k (σ 1 i) a y (by omega) (by omega) (by omega) (by omega)) (cwV 3 hts gX4_isDarkFor_X0_strikes rfl rfl rfl (by decide +kernel) ⟨Nat.le_of_ble_eq_true rfl, Nat.le_of_ble_eq_true rfl⟩) hW (xg_e G0 D xa σ τ (i := k) (by omega)) rfl rfl rfl rfl hl.1 (Nat.le_of_ble_eq_true rfl) dX4_isDarkFor_41 ⟨Nat.le_of_ble_eq_true rfl, Nat.le_of_ble_eq_true rfl⟩ (fun r_41 xa1 G1 H locs hp hW => ?_)
      obtain ⟨hu, hr_41⟩ := hp
      cases hu
      refine lv_if_eq (tgt := 49) hx hb dX4_isDarkFor_44 (by decide) (fun c_44 => ?_) (fun c_44 => ?_)
      · -- eq taken
        have c_44 := hr_41.f c_44
        refine lv_iinc (v := nI (k + 1)) (lv' := [(6, .int (nI (k + 1))), (0, .ref (xa 0 0)), (1, .ref (xa 10 i)), (2, .int (nI (a))), (3, .int (nI (y))), (4, .ref (xa 2 0)), (5, .int (nI (20))), (7, .ref (xa 12 k))]) hx hb dX4_isDarkFor_49 hl (k := 6) rfl (x_inc k 1 rfl) (by decide) rfl (fun ls hl => ?_)
        have hl : lv_has ls 8 [(0, .ref (xa 0 0)), (1, .ref (xa 10 i)), (2, .int (nI (a))), (3, .int (nI (y))), (4, .ref (xa 2 0)), (5, .int (nI (20))), (6, .int (nI (k + 1))), (7, .ref (xa 12 k))] := lv_sub hl [1, 2, 3, 4, 5, 6, 0, 7] rfl
        refine lv_goto (tgt := 14) hx hb dX4_isDarkFor_52 (by decide) ?_
        exact ih14 (20 - (k + 1)) (k + 1) _ _ _ (by omega) ⟨rfl, hW, lv_sub hl [0, 1, 2, 3, 4, 5, 6] rfl, fun j hj hj2 => by by_cases hjk : j = k; rw [hjk]; exact c_44; exact hno j (by omega) hj2, by (try dsimp only); omega⟩
      · -- eq not
        have c_44 := hr_41.t c_44
        refine lv_iconst (v := nI (1)) hx hb dX4_isDarkFor_47 (by decide +kernel) ?_
        exact xe_i hx hb hr rfl hlocks hW ⟨rfl, tv.one ⟨k, hkn, c_44⟩⟩ (Nat.le_of_ble_eq_true rfl) (Nat.le_of_ble_eq_true rfl) dX4_isDarkFor_48
    ·
      refine lv_aload hx hb dX4_isDarkFor_21 (lv_at hl 4 rfl) ?_
      refine lv_iload hx hb dX4_isDarkFor_23 (lv_at hl 6 rfl) ?_
      refine x_ald2 hx hb hW 2 0 1 rfl (xg_ea G0 D xa σ τ) (k) (by omega) (by omega) (v := .null) (by show va_rf (if _ then _ else _) = _; rw [if_neg hkn]; rfl) dX4_isDarkFor_25 ?_
      refine lv_astoreN (lv' := [(7, .null), (0, .ref (xa 0 0)), (1, .ref (xa 10 i)), (2, .int (nI (a))), (3, .int (nI (y))), (4, .ref (xa 2 0)), (5, .int (nI (20))), (6, .int (nI (k)))]) hx hb dX4_isDarkFor_26 hl (by decide) rfl (fun ls hl => ?_)
      have hl : lv_has ls 8 [(0, .ref (xa 0 0)), (1, .ref (xa 10 i)), (2, .int (nI (a))), (3, .int (nI (y))), (4, .ref (xa 2 0)), (5, .int (nI (20))), (6, .int (nI (k))), (7, .null)] := lv_sub hl [1, 2, 3, 4, 5, 6, 7, 0] rfl
      refine lv_aloadN hx hb dX4_isDarkFor_28 (lv_at hl 7 rfl) ?_
      refine lv_ifnullN (tgt := 49) hx hb dX4_isDarkFor_30 (by decide) ?_
      refine lv_iinc (v := nI (k + 1)) (lv' := [(6, .int (nI (k + 1))), (0, .ref (xa 0 0)), (1, .ref (xa 10 i)), (2, .int (nI (a))), (3, .int (nI (y))), (4, .ref (xa 2 0)), (5, .int (nI (20))), (7, .null)]) hx hb dX4_isDarkFor_49 hl (k := 6) rfl (x_inc k 1 rfl) (by decide) rfl (fun ls hl => ?_)
      have hl : lv_has ls 8 [(0, .ref (xa 0 0)), (1, .ref (xa 10 i)), (2, .int (nI (a))), (3, .int (nI (y))), (4, .ref (xa 2 0)), (5, .int (nI (20))), (6, .int (nI (k + 1))), (7, .null)] := lv_sub hl [1, 2, 3, 4, 5, 6, 0, 7] rfl
      refine lv_goto (tgt := 14) hx hb dX4_isDarkFor_52 (by decide) ?_
      exact ih14 (20 - (k + 1)) (k + 1) _ _ _ (by omega) ⟨rfl, hW, lv_sub hl [0, 1, 2, 3, 4, 5, 6] rfl, fun j hj hj2 => by by_cases hjk : j = k; rw [hjk]; omega; exact hno j (by omega) hj2, by (try dsimp only); omega⟩
