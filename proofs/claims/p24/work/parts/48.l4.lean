/-! THE LAW: class and law answer alike -/
set_option maxHeartbeats 4000000 in
set_option maxRecDepth 100000 in
theorem c_L_isSame (l : Launch) (hst0 : l.stackTraces = false) (D : xD) (sa : Nat → Nat) (xa : xA) (σ : Sg) (τ : Tg) (hI : LI σ) (hL : LL σ τ) (hT : TE σ τ) (z : Nat) (hz : z < 2 ^ 31) : xCi l yL_isSame wsL_isSame ({ frames := 32, cells := 24, slots := 144, locals := 1300 } : Room) D sa xa (xGs (LG D σ) D xa σ τ) [.ref (xa 0 0), .ref (xa 40 0), .ref (xa 41 0), .ref (xa 42 0), .ref (xa 43 0), .ref (xa 44 0), .ref (xa 45 0), .int (nI (z))] (fun r u => xPo D xa (LG D σ) σ (r = 1) u) 24 144 := by
  have hg := hI.1
  have hB := hg.1
  have h5 := hI.2.1
  have h12 := hI.2.2.1
  have h7 := hI.2.2.2
  have hs8 := hg.hs8
  have hy0 := hg.2.1.2.2.2.1
  have hy1 := hg.2.1.2.2.2.2
  intro sz
  refine Met.ofW (cc := cL_isSame) (maxL := 20) (ret := (some .boolean)) (by decide +kernel) rfl ?_
  intro p e s m args below meth c s₁ B hml hv
  obtain ⟨rfl, hsz, hv2⟩ := hv
  subst hsz
  have hx := B.exec
  have hb := B.bytes
  have hr := B.returns
  have hts := atoms_spec (ws := wsL_isSame) B.pre
  have hown : s.vm.findClass RL = some m.cls := findClass_of_methodNamed B.named
  have hlocks := B.notSynchronized
  have hW := xW.start (s := s) ⟨rfl, hv2⟩
  clear hv2
  generalize xAw xa (xGs (LG D σ) D xa σ τ) s.heap.size = A at hW ⊢
  have hl := lv_entry ([.ref (xa 0 0), .ref (xa 40 0), .ref (xa 41 0), .ref (xa 42 0), .ref (xa 43 0), .ref (xa 44 0), .ref (xa 45 0), .int (nI (z))]) (n := 20) (Nat.le_of_ble_eq_true rfl)
  rw [lg_entry_eq]
  generalize (lg_sl ([.ref (xa 0 0), .ref (xa 40 0), .ref (xa 41 0), .ref (xa 42 0), .ref (xa 43 0), .ref (xa 44 0), .ref (xa 45 0), .int (nI (z))]) ++ List.replicate (20 - (lg_sl ([.ref (xa 0 0), .ref (xa 40 0), .ref (xa 41 0), .ref (xa 42 0), .ref (xa 43 0), .ref (xa 44 0), .ref (xa 45 0), .int (nI (z))])).length) Slot.unset).toArray = ls at hl ⊢
  have hl : lv_has ls 20 [(0, .ref (xa 0 0)), (1, .ref (xa 40 0)), (2, .ref (xa 41 0)), (3, .ref (xa 42 0)), (4, .ref (xa 43 0)), (5, .ref (xa 44 0)), (6, .ref (xa 45 0)), (7, .int (nI (z)))] := hl
  refine lv_iload hx hb dL_isSame_0 (lv_at hl 7 rfl) ?_
  refine lv_iconst (v := nI (3)) hx hb dL_isSame_2 (by decide +kernel) ?_
  refine lv_irem hx hb dL_isSame_3 (nI_ne0 (n := 3) (by omega) (by omega)) ?_
  rw [n_rem (a := z) (d := 3) (by omega) (by omega) (by omega)]
  refine lv_istore (lv' := [(8, .int (nI (z % 3))), (0, .ref (xa 0 0)), (1, .ref (xa 40 0)), (2, .ref (xa 41 0)), (3, .ref (xa 42 0)), (4, .ref (xa 43 0)), (5, .ref (xa 44 0)), (6, .ref (xa 45 0)), (7, .int (nI (z)))]) hx hb dL_isSame_4 hl (by decide) rfl (fun ls hl => ?_)
  have hl : lv_has ls 20 [(0, .ref (xa 0 0)), (1, .ref (xa 40 0)), (2, .ref (xa 41 0)), (3, .ref (xa 42 0)), (4, .ref (xa 43 0)), (5, .ref (xa 44 0)), (6, .ref (xa 45 0)), (7, .int (nI (z))), (8, .int (nI (z % 3)))] := lv_sub hl [1, 2, 3, 4, 5, 6, 7, 8, 0] rfl
  obtain ⟨t, ht⟩ : ∃ x_, x_ = z % 3 := ⟨_, rfl⟩
  rw [← ht] at hl
  have b_t : t < 3 := by omega
  refine lv_iload hx hb dL_isSame_6 (lv_at hl 7 rfl) ?_
  refine lv_iconst (v := nI (3)) hx hb dL_isSame_8 (by decide +kernel) ?_
  refine lv_idiv hx hb dL_isSame_9 (nI_ne0 (n := 3) (by omega) (by omega)) ?_
  rw [pk_div (a := z) (d := 3) (by omega) (by omega) (by omega)]
  refine lv_iconst (v := nI (3)) hx hb dL_isSame_10 (by decide +kernel) ?_
  refine lv_irem hx hb dL_isSame_11 (nI_ne0 (n := 3) (by omega) (by omega)) ?_
  rw [n_rem (a := z / 3) (d := 3) (by omega) (by omega) (by omega)]
  refine lv_istore (lv' := [(9, .int (nI ((z / 3) % 3))), (0, .ref (xa 0 0)), (1, .ref (xa 40 0)), (2, .ref (xa 41 0)), (3, .ref (xa 42 0)), (4, .ref (xa 43 0)), (5, .ref (xa 44 0)), (6, .ref (xa 45 0)), (7, .int (nI (z))), (8, .int (nI (t)))]) hx hb dL_isSame_12 hl (by decide) rfl (fun ls hl => ?_)
  have hl : lv_has ls 20 [(0, .ref (xa 0 0)), (1, .ref (xa 40 0)), (2, .ref (xa 41 0)), (3, .ref (xa 42 0)), (4, .ref (xa 43 0)), (5, .ref (xa 44 0)), (6, .ref (xa 45 0)), (7, .int (nI (z))), (8, .int (nI (t))), (9, .int (nI ((z / 3) % 3)))] := lv_sub hl [1, 2, 3, 4, 5, 6, 7, 8, 9, 0] rfl
  obtain ⟨u, hu⟩ : ∃ x_, x_ = (z / 3) % 3 := ⟨_, rfl⟩
  rw [← hu] at hl
  have b_u : u < 3 := by omega
  refine lv_iload hx hb dL_isSame_14 (lv_at hl 7 rfl) ?_
  refine lv_bipush (v := nI (9)) hx hb dL_isSame_16 (by decide +kernel) ?_
  refine lv_idiv hx hb dL_isSame_18 (nI_ne0 (n := 9) (by omega) (by omega)) ?_
  rw [pk_div (a := z) (d := 9) (by omega) (by omega) (by omega)]
  refine lv_bipush (v := nI (8)) hx hb dL_isSame_19 (by decide +kernel) ?_
  refine lv_irem hx hb dL_isSame_21 (nI_ne0 (n := 8) (by omega) (by omega)) ?_
  rw [n_rem (a := z / 9) (d := 8) (by omega) (by omega) (by omega)]
  refine lv_istore (lv' := [(10, .int (nI ((z / 9) % 8))), (0, .ref (xa 0 0)), (1, .ref (xa 40 0)), (2, .ref (xa 41 0)), (3, .ref (xa 42 0)), (4, .ref (xa 43 0)), (5, .ref (xa 44 0)), (6, .ref (xa 45 0)), (7, .int (nI (z))), (8, .int (nI (t))), (9, .int (nI (u)))]) hx hb dL_isSame_22 hl (by decide) rfl (fun ls hl => ?_)
  have hl : lv_has ls 20 [(0, .ref (xa 0 0)), (1, .ref (xa 40 0)), (2, .ref (xa 41 0)), (3, .ref (xa 42 0)), (4, .ref (xa 43 0)), (5, .ref (xa 44 0)), (6, .ref (xa 45 0)), (7, .int (nI (z))), (8, .int (nI (t))), (9, .int (nI (u))), (10, .int (nI ((z / 9) % 8)))] := lv_sub hl [1, 2, 3, 4, 5, 6, 7, 8, 9, 10, 0] rfl
  obtain ⟨i, hi⟩ : ∃ x_, x_ = (z / 9) % 8 := ⟨_, rfl⟩
  rw [← hi] at hl
  have b_i : i < 8 := by omega
  refine lv_iload hx hb dL_isSame_24 (lv_at hl 7 rfl) ?_
  refine lv_bipush (v := nI (72)) hx hb dL_isSame_26 (by decide +kernel) ?_
  refine lv_idiv hx hb dL_isSame_28 (nI_ne0 (n := 72) (by omega) (by omega)) ?_
  rw [pk_div (a := z) (d := 72) (by omega) (by omega) (by omega)]
  refine lv_iconst (v := nI (5)) hx hb dL_isSame_29 (by decide +kernel) ?_
  refine lv_irem hx hb dL_isSame_30 (nI_ne0 (n := 5) (by omega) (by omega)) ?_
  rw [n_rem (a := z / 72) (d := 5) (by omega) (by omega) (by omega)]
  refine lv_istore (lv' := [(11, .int (nI ((z / 72) % 5))), (0, .ref (xa 0 0)), (1, .ref (xa 40 0)), (2, .ref (xa 41 0)), (3, .ref (xa 42 0)), (4, .ref (xa 43 0)), (5, .ref (xa 44 0)), (6, .ref (xa 45 0)), (7, .int (nI (z))), (8, .int (nI (t))), (9, .int (nI (u))), (10, .int (nI (i)))]) hx hb dL_isSame_31 hl (by decide) rfl (fun ls hl => ?_)
  have hl : lv_has ls 20 [(0, .ref (xa 0 0)), (1, .ref (xa 40 0)), (2, .ref (xa 41 0)), (3, .ref (xa 42 0)), (4, .ref (xa 43 0)), (5, .ref (xa 44 0)), (6, .ref (xa 45 0)), (7, .int (nI (z))), (8, .int (nI (t))), (9, .int (nI (u))), (10, .int (nI (i))), (11, .int (nI ((z / 72) % 5)))] := lv_sub hl [1, 2, 3, 4, 5, 6, 7, 8, 9, 10, 11, 0] rfl
  obtain ⟨a, ha⟩ : ∃ x_, x_ = (z / 72) % 5 := ⟨_, rfl⟩
  rw [← ha] at hl
  have b_a : a < 5 := by omega
  refine lv_sipush (v := nI (1900)) hx hb dL_isSame_33 (by decide +kernel) ?_
  refine lv_iload hx hb dL_isSame_36 (lv_at hl 7 rfl) ?_
  refine lv_sipush (v := nI (360)) hx hb dL_isSame_38 (by decide +kernel) ?_
  refine lv_idiv hx hb dL_isSame_41 (nI_ne0 (n := 360) (by omega) (by omega)) ?_
  rw [pk_div (a := z) (d := 360) (by omega) (by omega) (by omega)]
  refine lv_sipush (v := nI (201)) hx hb dL_isSame_42 (by decide +kernel) ?_
  refine lv_irem hx hb dL_isSame_45 (nI_ne0 (n := 201) (by omega) (by omega)) ?_
  rw [n_rem (a := z / 360) (d := 201) (by omega) (by omega) (by omega)]
  refine lv_iadd hx hb dL_isSame_46 ?_
  rw [nI_add]
  refine lv_istore (lv' := [(12, .int (nI (1900 + ((z / 360) % 201)))), (0, .ref (xa 0 0)), (1, .ref (xa 40 0)), (2, .ref (xa 41 0)), (3, .ref (xa 42 0)), (4, .ref (xa 43 0)), (5, .ref (xa 44 0)), (6, .ref (xa 45 0)), (7, .int (nI (z))), (8, .int (nI (t))), (9, .int (nI (u))), (10, .int (nI (i))), (11, .int (nI (a)))]) hx hb dL_isSame_47 hl (by decide) rfl (fun ls hl => ?_)
  have hl : lv_has ls 20 [(0, .ref (xa 0 0)), (1, .ref (xa 40 0)), (2, .ref (xa 41 0)), (3, .ref (xa 42 0)), (4, .ref (xa 43 0)), (5, .ref (xa 44 0)), (6, .ref (xa 45 0)), (7, .int (nI (z))), (8, .int (nI (t))), (9, .int (nI (u))), (10, .int (nI (i))), (11, .int (nI (a))), (12, .int (nI (1900 + ((z / 360) % 201))))] := lv_sub hl [1, 2, 3, 4, 5, 6, 7, 8, 9, 10, 11, 12, 0] rfl
  obtain ⟨y, hy⟩ : ∃ x_, x_ = 1900 + ((z / 360) % 201) := ⟨_, rfl⟩
  rw [← hy] at hl
  have b_y : 1900 ≤ y ∧ y ≤ 2100 := by omega
  refine lv_iload hx hb dL_isSame_49 (lv_at hl 7 rfl) ?_
  refine lv_iconst (v := nI (5)) hx hb dL_isSame_51 (by decide +kernel) ?_
  refine lv_idiv hx hb dL_isSame_52 (nI_ne0 (n := 5) (by omega) (by omega)) ?_
  rw [pk_div (a := z) (d := 5) (by omega) (by omega) (by omega)]
  refine lv_bipush (v := nI (9)) hx hb dL_isSame_53 (by decide +kernel) ?_
  refine lv_irem hx hb dL_isSame_55 (nI_ne0 (n := 9) (by omega) (by omega)) ?_
  rw [n_rem (a := z / 5) (d := 9) (by omega) (by omega) (by omega)]
  refine lv_istore (lv' := [(13, .int (nI ((z / 5) % 9))), (0, .ref (xa 0 0)), (1, .ref (xa 40 0)), (2, .ref (xa 41 0)), (3, .ref (xa 42 0)), (4, .ref (xa 43 0)), (5, .ref (xa 44 0)), (6, .ref (xa 45 0)), (7, .int (nI (z))), (8, .int (nI (t))), (9, .int (nI (u))), (10, .int (nI (i))), (11, .int (nI (a))), (12, .int (nI (y)))]) hx hb dL_isSame_56 hl (by decide) rfl (fun ls hl => ?_)
  have hl : lv_has ls 20 [(0, .ref (xa 0 0)), (1, .ref (xa 40 0)), (2, .ref (xa 41 0)), (3, .ref (xa 42 0)), (4, .ref (xa 43 0)), (5, .ref (xa 44 0)), (6, .ref (xa 45 0)), (7, .int (nI (z))), (8, .int (nI (t))), (9, .int (nI (u))), (10, .int (nI (i))), (11, .int (nI (a))), (12, .int (nI (y))), (13, .int (nI ((z / 5) % 9)))] := lv_sub hl [1, 2, 3, 4, 5, 6, 7, 8, 9, 10, 11, 12, 13, 0] rfl
  obtain ⟨q, hq⟩ : ∃ x_, x_ = (z / 5) % 9 := ⟨_, rfl⟩
  rw [← hq] at hl
  have b_q : q < 9 := by omega
  refine x_joinN (ls := ls) (D := D) (sa := sa) (A := A) (xa := xa) (G := xGs (LG D σ) D xa σ τ) (P := fun v_ => (t = 0 ∧ v_ = 1) ∨ (t = 1 ∧ v_ = 0) ∨ (t = 2 ∧ v_ = 0)) (mpc := 88) (rest := []) (fun H locs v_88 hW h_88 => ?_) (fun J88 => ?_)
  · try dsimp only at h_88
    refine lv_istore (lv' := [(14, .int (nI (v_88))), (0, .ref (xa 0 0)), (1, .ref (xa 40 0)), (2, .ref (xa 41 0)), (3, .ref (xa 42 0)), (4, .ref (xa 43 0)), (5, .ref (xa 44 0)), (6, .ref (xa 45 0)), (7, .int (nI (z))), (8, .int (nI (t))), (9, .int (nI (u))), (10, .int (nI (i))), (11, .int (nI (a))), (12, .int (nI (y))), (13, .int (nI (q)))]) hx hb dL_isSame_88 hl (by decide) rfl (fun ls hl => ?_)
    have hl : lv_has ls 20 [(0, .ref (xa 0 0)), (1, .ref (xa 40 0)), (2, .ref (xa 41 0)), (3, .ref (xa 42 0)), (4, .ref (xa 43 0)), (5, .ref (xa 44 0)), (6, .ref (xa 45 0)), (7, .int (nI (z))), (8, .int (nI (t))), (9, .int (nI (u))), (10, .int (nI (i))), (11, .int (nI (a))), (12, .int (nI (y))), (13, .int (nI (q))), (14, .int (nI (v_88)))] := lv_sub hl [1, 2, 3, 4, 5, 6, 7, 8, 9, 10, 11, 12, 13, 14, 0] rfl
    refine lv_iconst (v := nI (3)) hx hb dL_isSame_90 (by decide +kernel) ?_
    refine lv_iload hx hb dL_isSame_91 (lv_at hl 8 rfl) ?_
    refine lv_isub hx hb dL_isSame_93 ?_
    rw [pk_sub (a := 3) (b := t) (by omega)]
    refine lv_iload hx hb dL_isSame_94 (lv_at hl 14 rfl) ?_
    refine lv_isub hx hb dL_isSame_96 ?_
    rw [pk_sub (a := 3 - t) (b := v_88) (by omega)]
    refine lv_istore (lv' := [(15, .int (nI ((3 - t) - v_88))), (0, .ref (xa 0 0)), (1, .ref (xa 40 0)), (2, .ref (xa 41 0)), (3, .ref (xa 42 0)), (4, .ref (xa 43 0)), (5, .ref (xa 44 0)), (6, .ref (xa 45 0)), (7, .int (nI (z))), (8, .int (nI (t))), (9, .int (nI (u))), (10, .int (nI (i))), (11, .int (nI (a))), (12, .int (nI (y))), (13, .int (nI (q))), (14, .int (nI (v_88)))]) hx hb dL_isSame_97 hl (by decide) rfl (fun ls hl => ?_)
    have hl : lv_has ls 20 [(0, .ref (xa 0 0)), (1, .ref (xa 40 0)), (2, .ref (xa 41 0)), (3, .ref (xa 42 0)), (4, .ref (xa 43 0)), (5, .ref (xa 44 0)), (6, .ref (xa 45 0)), (7, .int (nI (z))), (8, .int (nI (t))), (9, .int (nI (u))), (10, .int (nI (i))), (11, .int (nI (a))), (12, .int (nI (y))), (13, .int (nI (q))), (14, .int (nI (v_88))), (15, .int (nI ((3 - t) - v_88)))] := lv_sub hl [1, 2, 3, 4, 5, 6, 7, 8, 9, 10, 11, 12, 13, 14, 15, 0] rfl
    obtain ⟨bb, hbb⟩ : ∃ x_, x_ = (3 - t) - v_88 := ⟨_, rfl⟩
    rw [← hbb] at hl
    have b_bb : bb < 3 := by omega
    have hab : (t = 0 ∧ v_88 = 1 ∧ bb = 2) ∨ (t = 1 ∧ v_88 = 0 ∧ bb = 2) ∨ (t = 2 ∧ v_88 = 0 ∧ bb = 1) := by omega
    refine x_joinN (ls := ls) (D := D) (sa := sa) (A := A) (xa := xa) (G := xGs (LG D σ) D xa σ τ) (P := fun v_ => lst σ t 3 = some v_ ∧ v_ < 3) (mpc := 127) (rest := []) (fun H locs v_127 hW h_127 => ?_) (fun J127 => ?_)
    · try dsimp only at h_127
      have hlst := h_127.1
      refine lv_istore (lv' := [(14, .int (nI (v_127))), (0, .ref (xa 0 0)), (1, .ref (xa 40 0)), (2, .ref (xa 41 0)), (3, .ref (xa 42 0)), (4, .ref (xa 43 0)), (5, .ref (xa 44 0)), (6, .ref (xa 45 0)), (7, .int (nI (z))), (8, .int (nI (t))), (9, .int (nI (u))), (10, .int (nI (i))), (11, .int (nI (a))), (12, .int (nI (y))), (13, .int (nI (q))), (15, .int (nI (bb)))]) hx hb dL_isSame_127 hl (by decide) rfl (fun ls hl => ?_)
      have hl : lv_has ls 20 [(0, .ref (xa 0 0)), (1, .ref (xa 40 0)), (2, .ref (xa 41 0)), (3, .ref (xa 42 0)), (4, .ref (xa 43 0)), (5, .ref (xa 44 0)), (6, .ref (xa 45 0)), (7, .int (nI (z))), (8, .int (nI (t))), (9, .int (nI (u))), (10, .int (nI (i))), (11, .int (nI (a))), (12, .int (nI (y))), (13, .int (nI (q))), (14, .int (nI (v_127))), (15, .int (nI (bb)))] := lv_sub hl [1, 2, 3, 4, 5, 6, 7, 8, 9, 10, 11, 12, 13, 14, 0, 15] rfl
      refine lv_aload_n hx hb dL_isSame_129 rfl (lv_at hl 0 rfl) ?_
      refine lv_iload hx hb dL_isSame_130 (lv_at hl 10 rfl) ?_
      refine yg_i (k := 0) (i := 0) (As := [.int (nI (i))]) (rest := []) ⟨hx, hb, hml, hown, hts⟩ (c_X4_heirOf l hst0 D sa xa (LG D σ) σ τ hg hL (nI (i))) (fun E => pxk_no (pP_of (i := i) (by omega) (by omega)) trivial trivial) (cwV 1 hts gL_isSame_X4_heirOf rfl rfl rfl (by decide +kernel) ⟨Nat.le_of_ble_eq_true rfl, Nat.le_of_ble_eq_true rfl⟩) hW (xg_x (LG D σ) D xa σ τ) rfl rfl rfl rfl hl.1 (Nat.le_of_ble_eq_true rfl) dL_isSame_132 ⟨Nat.le_of_ble_eq_true rfl, Nat.le_of_ble_eq_true rfl⟩ (fun r_132 xa1 G1 H locs hp hW => ?_)
      obtain ⟨-, hu, hr_132⟩ := hp
      cases hu
      rw [xn_nI (n := i) (by omega)] at hr_132
      subst hr_132
      refine lv_aload_n hx hb dL_isSame_135 rfl (lv_at hl 1 rfl) ?_
      refine lv_aload_n hx hb dL_isSame_136 rfl (lv_at hl 2 rfl) ?_
      refine lv_iload hx hb dL_isSame_137 (lv_at hl 10 rfl) ?_
      refine xs_i (As := [.ref (xa 40 0), .ref (xa 41 0), .int (nI (i))]) (rest := [.int (oi (fh σ 3 i))]) ⟨hx, hb, hml, hown, hts⟩ (c_L_heirOf l D sa xa (xGs (LG D σ) D xa σ τ) σ hI LA_x i (by omega)) (va_cwS 3 hts gL_isSame_L_heirOf rfl rfl rfl (by decide +kernel) ⟨Nat.le_of_ble_eq_true rfl, Nat.le_of_ble_eq_true rfl⟩) hW rfl rfl hl.1 (Nat.le_of_ble_eq_true rfl) dL_isSame_139 ⟨Nat.le_of_ble_eq_true rfl, Nat.le_of_ble_eq_true rfl⟩ (fun r_139 xa1 G1 H locs hp hW => ?_)
      obtain ⟨hu, hr_139⟩ := hp
      cases hu
      subst hr_139
      refine lv_icmp_ne (tgt := 224) hx hb dL_isSame_142 (by decide) (fun c_142 => ?_) (fun c_142 => ?_)
      · -- ne taken
        exact absurd rfl c_142
      · -- ne not
        refine lv_aload_n hx hb dL_isSame_145 rfl (lv_at hl 0 rfl) ?_
        refine lv_iload hx hb dL_isSame_146 (lv_at hl 10 rfl) ?_
        refine lv_iload hx hb dL_isSame_148 (lv_at hl 11 rfl) ?_
        refine lv_iload hx hb dL_isSame_150 (lv_at hl 12 rfl) ?_
        refine yg_i (k := 0) (i := 0) (As := [.int (nI (i)), .int (nI (a)), .int (nI (y))]) (rest := []) ⟨hx, hb, hml, hown, hts⟩ (c_X4_isPersecuted l hst0 D sa xa (LG D σ) σ τ hg hL (nI (i)) (nI (a)) (nI (y))) (fun E => pxk_no ⟨(pP_of (i := i) (by omega) (by omega)), pL_of (by omega)⟩ (rg_of (n := y) (by omega) (by omega) (by omega)) trivial) (cwV 3 hts gL_isSame_X4_isPersecuted rfl rfl rfl (by decide +kernel) ⟨Nat.le_of_ble_eq_true rfl, Nat.le_of_ble_eq_true rfl⟩) hW (xg_x (LG D σ) D xa σ τ) rfl rfl rfl rfl hl.1 (Nat.le_of_ble_eq_true rfl) dL_isSame_152 ⟨Nat.le_of_ble_eq_true rfl, Nat.le_of_ble_eq_true rfl⟩ (fun r_152 xa1 G1 H locs hp hW => ?_)
        obtain ⟨-, hu, hr_152⟩ := hp
        cases hu
        rw [xn_nI (n := i) (by omega), xn_nI (n := a) (by omega), xn_nI (n := y) (by omega)] at hr_152
        refine lv_aload_n hx hb dL_isSame_155 rfl (lv_at hl 1 rfl) ?_
        refine lv_aload_n hx hb dL_isSame_156 rfl (lv_at hl 3 rfl) ?_
        refine lv_aload hx hb dL_isSame_157 (lv_at hl 6 rfl) ?_
        refine lv_iload hx hb dL_isSame_159 (lv_at hl 10 rfl) ?_
        refine lv_iload hx hb dL_isSame_161 (lv_at hl 11 rfl) ?_
        refine lv_iload hx hb dL_isSame_163 (lv_at hl 12 rfl) ?_
        refine xs_i (As := [.ref (xa 40 0), .ref (xa 42 0), .ref (xa 45 0), .int (nI (i)), .int (nI (a)), .int (nI (y))]) (rest := [.int (r_152)]) ⟨hx, hb, hml, hown, hts⟩ (c_L_isPersecuted l D sa xa (xGs (LG D σ) D xa σ τ) σ hI LA_x i a y (by omega) (by omega) (by omega)) (va_cwS 6 hts gL_isSame_L_isPersecuted rfl rfl rfl (by decide +kernel) ⟨Nat.le_of_ble_eq_true rfl, Nat.le_of_ble_eq_true rfl⟩) hW rfl rfl hl.1 (Nat.le_of_ble_eq_true rfl) dL_isSame_165 ⟨Nat.le_of_ble_eq_true rfl, Nat.le_of_ble_eq_true rfl⟩ (fun r_165 xa1 G1 H locs hp hW => ?_)
        obtain ⟨hu, hr_165⟩ := hp
        cases hu
        have e_165 := hr_152.uniq hr_165 Iff.rfl
        subst e_165
        refine lv_icmp_ne (tgt := 224) hx hb dL_isSame_168 (by decide) (fun c_168 => ?_) (fun c_168 => ?_)
        · -- ne taken
          exact absurd rfl c_168
        · -- ne not
          refine lv_aload_n hx hb dL_isSame_171 rfl (lv_at hl 0 rfl) ?_
          refine lv_iload hx hb dL_isSame_172 (lv_at hl 8 rfl) ?_
          refine lv_iload hx hb dL_isSame_174 (lv_at hl 9 rfl) ?_
          refine yg_i (k := 0) (i := 0) (As := [.int (nI (t)), .int (nI (u))]) (rest := []) ⟨hx, hb, hml, hown, hts⟩ (c_X4_likeness l hst0 D sa xa (LG D σ) σ τ hg hL (nI (t)) (nI (u))) (fun E => pxk_no ⟨(pT_of (i := t) (by omega) (by omega)), (pT_of (i := u) (by omega) (by omega))⟩ trivial trivial) (cwV 2 hts gL_isSame_X4_likeness rfl rfl rfl (by decide +kernel) ⟨Nat.le_of_ble_eq_true rfl, Nat.le_of_ble_eq_true rfl⟩) hW (xg_x (LG D σ) D xa σ τ) rfl rfl rfl rfl hl.1 (Nat.le_of_ble_eq_true rfl) dL_isSame_176 ⟨Nat.le_of_ble_eq_true rfl, Nat.le_of_ble_eq_true rfl⟩ (fun r_176 xa1 G1 H locs hp hW => ?_)
          obtain ⟨-, hu, hr_176⟩ := hp
          cases hu
          rw [xn_nI (n := t) (by omega), xn_nI (n := u) (by omega)] at hr_176
          refine lv_aload hx hb dL_isSame_179 (lv_at hl 4 rfl) ?_
          refine lv_iload hx hb dL_isSame_181 (lv_at hl 8 rfl) ?_
          refine lv_iload hx hb dL_isSame_183 (lv_at hl 9 rfl) ?_
          refine xs_i (As := [.ref (xa 43 0), .int (nI (t)), .int (nI (u))]) (rest := [.int (r_176)]) ⟨hx, hb, hml, hown, hts⟩ (c_L_likeness l D sa xa (xGs (LG D σ) D xa σ τ) σ hI LA_x t u (by omega) (by omega)) (va_cwS 3 hts gL_isSame_L_likeness rfl rfl rfl (by decide +kernel) ⟨Nat.le_of_ble_eq_true rfl, Nat.le_of_ble_eq_true rfl⟩) hW rfl rfl hl.1 (Nat.le_of_ble_eq_true rfl) dL_isSame_185 ⟨Nat.le_of_ble_eq_true rfl, Nat.le_of_ble_eq_true rfl⟩ (fun r_185 xa1 G1 H locs hp hW => ?_)
          obtain ⟨hu, hr_185⟩ := hp
          cases hu
          have e_185 : r_176 = r_185 := Int32.toInt_inj.mp (hr_176.trans hr_185.symm)
          subst e_185
          refine lv_icmp_ne (tgt := 224) hx hb dL_isSame_188 (by decide) (fun c_188 => ?_) (fun c_188 => ?_)
          · -- ne taken
            exact absurd rfl c_188
          · -- ne not
            refine lv_aload_n hx hb dL_isSame_191 rfl (lv_at hl 0 rfl) ?_
            refine lv_iload hx hb dL_isSame_192 (lv_at hl 8 rfl) ?_
            refine yg_i (k := 0) (i := 0) (As := [.int (nI (t))]) (rest := []) ⟨hx, hb, hml, hown, hts⟩ (c_X4_likest l hst0 D sa xa (LG D σ) σ τ hg hL (nI (t))) (fun E => pxk_no (pT_of (i := t) (by omega) (by omega)) trivial trivial) (cwV 1 hts gL_isSame_X4_likest rfl rfl rfl (by decide +kernel) ⟨Nat.le_of_ble_eq_true rfl, Nat.le_of_ble_eq_true rfl⟩) hW (xg_x (LG D σ) D xa σ τ) rfl rfl rfl rfl hl.1 (Nat.le_of_ble_eq_true rfl) dL_isSame_194 ⟨Nat.le_of_ble_eq_true rfl, Nat.le_of_ble_eq_true rfl⟩ (fun r_194 xa1 G1 H locs hp hW => ?_)
            obtain ⟨-, hu, hr_194⟩ := hp
            cases hu
            rw [xn_nI (n := t) (by omega), h12, hlst] at hr_194
            subst hr_194
            refine lv_iload hx hb dL_isSame_197 (lv_at hl 14 rfl) ?_
            refine lv_icmp_ne (tgt := 224) hx hb dL_isSame_199 (by decide) (fun c_199 => ?_) (fun c_199 => ?_)
            · -- ne taken
              exact absurd rfl c_199
            · -- ne not
              refine lv_aload_n hx hb dL_isSame_202 rfl (lv_at hl 0 rfl) ?_
              refine lv_iload hx hb dL_isSame_203 (lv_at hl 8 rfl) ?_
              refine yg_i (k := 0) (i := 0) (As := [.int (nI (t))]) (rest := []) ⟨hx, hb, hml, hown, hts⟩ (c_X4_holder l hst0 D sa xa (LG D σ) σ τ hg hL (nI (t))) (fun E => pxk_no (pT_of (i := t) (by omega) (by omega)) trivial trivial) (cwV 1 hts gL_isSame_X4_holder rfl rfl rfl (by decide +kernel) ⟨Nat.le_of_ble_eq_true rfl, Nat.le_of_ble_eq_true rfl⟩) hW (xg_x (LG D σ) D xa σ τ) rfl rfl rfl rfl hl.1 (Nat.le_of_ble_eq_true rfl) dL_isSame_205 ⟨Nat.le_of_ble_eq_true rfl, Nat.le_of_ble_eq_true rfl⟩ (fun r_205 xa1 G1 H locs hp hW => ?_)
              obtain ⟨-, hu, hr_205⟩ := hp
              cases hu
              rw [xn_nI (n := t) (by omega)] at hr_205
              subst hr_205
              refine lv_aload hx hb dL_isSame_208 (lv_at hl 5 rfl) ?_
              refine lv_aload hx hb dL_isSame_210 (lv_at hl 6 rfl) ?_
              refine lv_iload hx hb dL_isSame_212 (lv_at hl 8 rfl) ?_
              refine xs_i (As := [.ref (xa 44 0), .ref (xa 45 0), .int (nI (t))]) (rest := [.int (oi (hold σ t))]) ⟨hx, hb, hml, hown, hts⟩ (c_L_holder l D sa xa (xGs (LG D σ) D xa σ τ) σ hI LA_x t (by omega)) (va_cwS 3 hts gL_isSame_L_holder rfl rfl rfl (by decide +kernel) ⟨Nat.le_of_ble_eq_true rfl, Nat.le_of_ble_eq_true rfl⟩) hW rfl rfl hl.1 (Nat.le_of_ble_eq_true rfl) dL_isSame_214 ⟨Nat.le_of_ble_eq_true rfl, Nat.le_of_ble_eq_true rfl⟩ (fun r_214 xa1 G1 H locs hp hW => ?_)
              obtain ⟨hu, hr_214⟩ := hp
              cases hu
              subst hr_214
              refine lv_icmp_ne (tgt := 224) hx hb dL_isSame_217 (by decide) (fun c_217 => ?_) (fun c_217 => ?_)
              · -- ne taken
                exact absurd rfl c_217
              · -- ne not
                refine lv_iconst (v := nI (1)) hx hb dL_isSame_220 (by decide +kernel) ?_
                refine lv_goto (tgt := 225) hx hb dL_isSame_221 (by decide) ?_
                refine lv_istore (lv' := [(16, .int (nI (1))), (0, .ref (xa 0 0)), (1, .ref (xa 40 0)), (2, .ref (xa 41 0)), (3, .ref (xa 42 0)), (4, .ref (xa 43 0)), (5, .ref (xa 44 0)), (6, .ref (xa 45 0)), (7, .int (nI (z))), (8, .int (nI (t))), (9, .int (nI (u))), (10, .int (nI (i))), (11, .int (nI (a))), (12, .int (nI (y))), (13, .int (nI (q))), (14, .int (nI (v_127))), (15, .int (nI (bb)))]) hx hb dL_isSame_225 hl (by decide) rfl (fun ls hl => ?_)
                have hl : lv_has ls 20 [(0, .ref (xa 0 0)), (1, .ref (xa 40 0)), (2, .ref (xa 41 0)), (3, .ref (xa 42 0)), (4, .ref (xa 43 0)), (5, .ref (xa 44 0)), (6, .ref (xa 45 0)), (7, .int (nI (z))), (8, .int (nI (t))), (9, .int (nI (u))), (10, .int (nI (i))), (11, .int (nI (a))), (12, .int (nI (y))), (13, .int (nI (q))), (14, .int (nI (v_127))), (15, .int (nI (bb))), (16, .int (nI (1)))] := lv_sub hl [1, 2, 3, 4, 5, 6, 7, 8, 9, 10, 11, 12, 13, 14, 15, 16, 0] rfl
                refine lv_iload hx hb dL_isSame_227 (lv_at hl 16 rfl) ?_
                refine lv_if_eq (tgt := 274) hx hb dL_isSame_229 (by decide) (fun c_229 => ?_) (fun c_229 => ?_)
                · -- eq taken
                  exact absurd c_229 (by decide)
                · -- eq not
                  refine x_joinL (D := D) (sa := sa) (A := A) (xa := xa) (G := xGs (LG D σ) D xa σ τ) (nL := 20) (lv := [(0, .ref (xa 0 0)), (1, .ref (xa 40 0)), (2, .ref (xa 41 0)), (3, .ref (xa 42 0)), (4, .ref (xa 43 0)), (5, .ref (xa 44 0)), (6, .ref (xa 45 0)), (7, .int (nI (z))), (8, .int (nI (t))), (9, .int (nI (u))), (10, .int (nI (i))), (11, .int (nI (a))), (12, .int (nI (y))), (13, .int (nI (q))), (14, .int (nI (v_127))), (15, .int (nI (bb))), (16, .int (nI (1)))]) (mpc := 334) (cells1 := 12) (slots1 := 72) (rest := []) (fun H locs ls hW hl => ?_) (fun J334 => ?_)
                  ·
                    refine lv_iconst (v := nI (0)) hx hb dL_isSame_334 (by decide +kernel) ?_
                    refine lv_istore (lv' := [(17, .int (nI (0))), (0, .ref (xa 0 0)), (1, .ref (xa 40 0)), (2, .ref (xa 41 0)), (3, .ref (xa 42 0)), (4, .ref (xa 43 0)), (5, .ref (xa 44 0)), (6, .ref (xa 45 0)), (7, .int (nI (z))), (8, .int (nI (t))), (9, .int (nI (u))), (10, .int (nI (i))), (11, .int (nI (a))), (12, .int (nI (y))), (13, .int (nI (q))), (14, .int (nI (v_127))), (15, .int (nI (bb))), (16, .int (nI (1)))]) hx hb dL_isSame_335 hl (by decide) rfl (fun ls hl => ?_)
                    have hl : lv_has ls 20 [(0, .ref (xa 0 0)), (1, .ref (xa 40 0)), (2, .ref (xa 41 0)), (3, .ref (xa 42 0)), (4, .ref (xa 43 0)), (5, .ref (xa 44 0)), (6, .ref (xa 45 0)), (7, .int (nI (z))), (8, .int (nI (t))), (9, .int (nI (u))), (10, .int (nI (i))), (11, .int (nI (a))), (12, .int (nI (y))), (13, .int (nI (q))), (14, .int (nI (v_127))), (15, .int (nI (bb))), (16, .int (nI (1))), (17, .int (nI (0)))] := lv_sub hl [1, 2, 3, 4, 5, 6, 7, 8, 9, 10, 11, 12, 13, 14, 15, 16, 17, 0] rfl
                    have hcnt : cnt σ i 0 0 := rfl
                    refine lv_iconst (v := nI (0)) hx hb dL_isSame_337 (by decide +kernel) ?_
                    refine lv_istore (lv' := [(18, .int (nI (0))), (0, .ref (xa 0 0)), (1, .ref (xa 40 0)), (2, .ref (xa 41 0)), (3, .ref (xa 42 0)), (4, .ref (xa 43 0)), (5, .ref (xa 44 0)), (6, .ref (xa 45 0)), (7, .int (nI (z))), (8, .int (nI (t))), (9, .int (nI (u))), (10, .int (nI (i))), (11, .int (nI (a))), (12, .int (nI (y))), (13, .int (nI (q))), (14, .int (nI (v_127))), (15, .int (nI (bb))), (16, .int (nI (1))), (17, .int (nI (0)))]) hx hb dL_isSame_338 hl (by decide) rfl (fun ls hl => ?_)
                    have hl : lv_has ls 20 [(0, .ref (xa 0 0)), (1, .ref (xa 40 0)), (2, .ref (xa 41 0)), (3, .ref (xa 42 0)), (4, .ref (xa 43 0)), (5, .ref (xa 44 0)), (6, .ref (xa 45 0)), (7, .int (nI (z))), (8, .int (nI (t))), (9, .int (nI (u))), (10, .int (nI (i))), (11, .int (nI (a))), (12, .int (nI (y))), (13, .int (nI (q))), (14, .int (nI (v_127))), (15, .int (nI (bb))), (16, .int (nI (1))), (17, .int (nI (0))), (18, .int (nI (0)))] := lv_sub hl [1, 2, 3, 4, 5, 6, 7, 8, 9, 10, 11, 12, 13, 14, 15, 16, 17, 18, 0] rfl
                    refine lv_iload hx hb dL_isSame_340 (lv_at hl 18 rfl) ?_
                    refine lv_iconst (v := nI (3)) hx hb dL_isSame_342 (by decide +kernel) ?_
                    refine lv_icmp_ge (tgt := 431) hx hb dL_isSame_343 (by decide) (fun c_343 => ?_) (fun c_343 => ?_)
                    · -- ge taken
                      exact absurd c_343 (by decide)
                    · -- ge not
                      refine lv_iload hx hb dL_isSame_346 (lv_at hl 16 rfl) ?_
                      refine lv_if_eq (tgt := 431) hx hb dL_isSame_348 (by decide) (fun c_348 => ?_) (fun c_348 => ?_)
                      · -- eq taken
                        exact absurd c_348 (by decide)
                      · -- eq not
                        refine lv_aload_n hx hb dL_isSame_351 rfl (lv_at hl 1 rfl) ?_
                        refine lv_aload_n hx hb dL_isSame_352 rfl (lv_at hl 2 rfl) ?_
                        refine lv_aload_n hx hb dL_isSame_353 rfl (lv_at hl 3 rfl) ?_
                        refine lv_aload hx hb dL_isSame_354 (lv_at hl 5 rfl) ?_
                        refine lv_aload hx hb dL_isSame_356 (lv_at hl 6 rfl) ?_
                        refine lv_iload hx hb dL_isSame_358 (lv_at hl 18 rfl) ?_
                        refine xs_i (As := [.ref (xa 40 0), .ref (xa 41 0), .ref (xa 42 0), .ref (xa 44 0), .ref (xa 45 0), .int (nI (0))]) (rest := []) ⟨hx, hb, hml, hown, hts⟩ (c_L_owner l D sa xa (xGs (LG D σ) D xa σ τ) σ hI LA_x 0 (by omega)) (va_cwS 6 hts gL_isSame_L_owner rfl rfl rfl (by decide +kernel) ⟨Nat.le_of_ble_eq_true rfl, Nat.le_of_ble_eq_true rfl⟩) hW rfl rfl hl.1 (Nat.le_of_ble_eq_true rfl) dL_isSame_360 ⟨Nat.le_of_ble_eq_true rfl, Nat.le_of_ble_eq_true rfl⟩ (fun r_360 xa1 G1 H locs hp hW => ?_)
                        obtain ⟨hu, ro0, hr_360, ho0⟩ := hp
                        cases hu
                        subst hr_360
                        refine lv_istore (lv' := [(19, .int (oi ro0)), (0, .ref (xa 0 0)), (1, .ref (xa 40 0)), (2, .ref (xa 41 0)), (3, .ref (xa 42 0)), (4, .ref (xa 43 0)), (5, .ref (xa 44 0)), (6, .ref (xa 45 0)), (7, .int (nI (z))), (8, .int (nI (t))), (9, .int (nI (u))), (10, .int (nI (i))), (11, .int (nI (a))), (12, .int (nI (y))), (13, .int (nI (q))), (14, .int (nI (v_127))), (15, .int (nI (bb))), (16, .int (nI (1))), (17, .int (nI (0))), (18, .int (nI (0)))]) hx hb dL_isSame_363 hl (by decide) rfl (fun ls hl => ?_)
                        have hl : lv_has ls 20 [(0, .ref (xa 0 0)), (1, .ref (xa 40 0)), (2, .ref (xa 41 0)), (3, .ref (xa 42 0)), (4, .ref (xa 43 0)), (5, .ref (xa 44 0)), (6, .ref (xa 45 0)), (7, .int (nI (z))), (8, .int (nI (t))), (9, .int (nI (u))), (10, .int (nI (i))), (11, .int (nI (a))), (12, .int (nI (y))), (13, .int (nI (q))), (14, .int (nI (v_127))), (15, .int (nI (bb))), (16, .int (nI (1))), (17, .int (nI (0))), (18, .int (nI (0))), (19, .int (oi ro0))] := lv_sub hl [1, 2, 3, 4, 5, 6, 7, 8, 9, 10, 11, 12, 13, 14, 15, 16, 17, 18, 19, 0] rfl
                        refine lv_aload_n hx hb dL_isSame_365 rfl (lv_at hl 0 rfl) ?_
                        refine lv_iload hx hb dL_isSame_366 (lv_at hl 18 rfl) ?_
                        refine yg_i (k := 0) (i := 0) (As := [.int (nI (0))]) (rest := []) ⟨hx, hb, hml, hown, hts⟩ (c_X4_owner l hst0 D sa xa (LG D σ) σ τ hg hL (nI (0))) (fun E => pxk_no (pT_of (i := 0) (by omega) (by omega)) trivial trivial) (cwV 1 hts gL_isSame_X4_owner rfl rfl rfl (by decide +kernel) ⟨Nat.le_of_ble_eq_true rfl, Nat.le_of_ble_eq_true rfl⟩) hW (xg_x (LG D σ) D xa σ τ) rfl rfl rfl rfl hl.1 (Nat.le_of_ble_eq_true rfl) dL_isSame_368 ⟨Nat.le_of_ble_eq_true rfl, Nat.le_of_ble_eq_true rfl⟩ (fun r_368 xa1 G1 H locs hp hW => ?_)
                        obtain ⟨-, hu, hr_368⟩ := hp
                        cases hu
                        obtain ⟨o_, hr_, hown_⟩ := hr_368
                        rw [xn_nI (n := 0) (by omega)] at hown_
                        cases own.uniq hown_ ho0
                        subst hr_
                        refine lv_iload hx hb dL_isSame_371 (lv_at hl 19 rfl) ?_
                        refine lv_icmp_ne (tgt := 391) hx hb dL_isSame_373 (by decide) (fun c_373 => ?_) (fun c_373 => ?_)
                        · -- ne taken
                          exact absurd rfl c_373
                        · -- ne not
                          refine lv_aload_n hx hb dL_isSame_376 rfl (lv_at hl 0 rfl) ?_
                          refine lv_iload hx hb dL_isSame_377 (lv_at hl 18 rfl) ?_
                          refine yg_i (k := 0) (i := 0) (As := [.int (nI (0))]) (rest := []) ⟨hx, hb, hml, hown, hts⟩ (c_X4_ownerAnew l hst0 D sa xa (LG D σ) σ τ hg hL hT (nI (0))) (fun E => pxk_no (pT_of (i := 0) (by omega) (by omega)) trivial trivial) (cwV 1 hts gL_isSame_X4_ownerAnew rfl rfl rfl (by decide +kernel) ⟨Nat.le_of_ble_eq_true rfl, Nat.le_of_ble_eq_true rfl⟩) hW (xg_x (LG D σ) D xa σ τ) rfl rfl rfl rfl hl.1 (Nat.le_of_ble_eq_true rfl) dL_isSame_379 ⟨Nat.le_of_ble_eq_true rfl, Nat.le_of_ble_eq_true rfl⟩ (fun r_379 xa1 G1 H locs hp hW => ?_)
                          obtain ⟨-, xb1, τ1, hag1, hu, hL1, hT1, o_, hr_, hown_⟩ := hp
                          have hu2 : G1 = _ := congrArg Prod.snd hu
                          subst hu2
                          have hu1 : xb1 = xa1 := (congrArg Prod.fst hu).symm
                          subst hu1
                          rw [xn_nI (n := 0) (by omega)] at hown_
                          cases own.uniq hown_ ho0
                          subst hr_
                          have hl : lv_has ls 20 [(0, .ref (xb1 0 0)), (1, .ref (xb1 40 0)), (2, .ref (xb1 41 0)), (3, .ref (xb1 42 0)), (4, .ref (xb1 43 0)), (5, .ref (xb1 44 0)), (6, .ref (xb1 45 0)), (7, .int (nI (z))), (8, .int (nI (t))), (9, .int (nI (u))), (10, .int (nI (i))), (11, .int (nI (a))), (12, .int (nI (y))), (13, .int (nI (q))), (14, .int (nI (v_127))), (15, .int (nI (bb))), (16, .int (nI (1))), (17, .int (nI (0))), (18, .int (nI (0))), (19, .int (oi ro0))] := by rw [hag1 0 0 (by omega), hag1 40 0 (by omega), hag1 41 0 (by omega), hag1 42 0 (by omega), hag1 43 0 (by omega), hag1 44 0 (by omega), hag1 45 0 (by omega)]; exact hl
                          refine lv_iload hx hb dL_isSame_382 (lv_at hl 19 rfl) ?_
                          refine lv_icmp_ne (tgt := 391) hx hb dL_isSame_384 (by decide) (fun c_384 => ?_) (fun c_384 => ?_)
                          · -- ne taken
                            exact absurd rfl c_384
                          · -- ne not
                            refine lv_iconst (v := nI (1)) hx hb dL_isSame_387 (by decide +kernel) ?_
                            refine lv_goto (tgt := 392) hx hb dL_isSame_388 (by decide) ?_
                            refine lv_istore (lv' := [(16, .int (nI (1))), (0, .ref (xb1 0 0)), (1, .ref (xb1 40 0)), (2, .ref (xb1 41 0)), (3, .ref (xb1 42 0)), (4, .ref (xb1 43 0)), (5, .ref (xb1 44 0)), (6, .ref (xb1 45 0)), (7, .int (nI (z))), (8, .int (nI (t))), (9, .int (nI (u))), (10, .int (nI (i))), (11, .int (nI (a))), (12, .int (nI (y))), (13, .int (nI (q))), (14, .int (nI (v_127))), (15, .int (nI (bb))), (17, .int (nI (0))), (18, .int (nI (0))), (19, .int (oi ro0))]) hx hb dL_isSame_392 hl (by decide) rfl (fun ls hl => ?_)
                            have hl : lv_has ls 20 [(0, .ref (xb1 0 0)), (1, .ref (xb1 40 0)), (2, .ref (xb1 41 0)), (3, .ref (xb1 42 0)), (4, .ref (xb1 43 0)), (5, .ref (xb1 44 0)), (6, .ref (xb1 45 0)), (7, .int (nI (z))), (8, .int (nI (t))), (9, .int (nI (u))), (10, .int (nI (i))), (11, .int (nI (a))), (12, .int (nI (y))), (13, .int (nI (q))), (14, .int (nI (v_127))), (15, .int (nI (bb))), (16, .int (nI (1))), (17, .int (nI (0))), (18, .int (nI (0))), (19, .int (oi ro0))] := lv_sub hl [1, 2, 3, 4, 5, 6, 7, 8, 9, 10, 11, 12, 13, 14, 15, 16, 0, 17, 18, 19] rfl
                            refine x_joinN (ls := ls) (D := D) (sa := sa) (A := A) (xa := xb1) (G := xGs (LG D σ) D xb1 σ τ1) (P := fun v_ => cnt σ i (0 + 1) v_) (mpc := 423) (rest := []) (fun H locs v_423_0 hW h_423 => ?_) (fun J423 => ?_)
                            · try dsimp only at h_423
                              have hcnt := h_423
                              have hcl := cnt_le hcnt
                              refine lv_istore (lv' := [(17, .int (nI (v_423_0))), (0, .ref (xb1 0 0)), (1, .ref (xb1 40 0)), (2, .ref (xb1 41 0)), (3, .ref (xb1 42 0)), (4, .ref (xb1 43 0)), (5, .ref (xb1 44 0)), (6, .ref (xb1 45 0)), (7, .int (nI (z))), (8, .int (nI (t))), (9, .int (nI (u))), (10, .int (nI (i))), (11, .int (nI (a))), (12, .int (nI (y))), (13, .int (nI (q))), (14, .int (nI (v_127))), (15, .int (nI (bb))), (16, .int (nI (1))), (18, .int (nI (0))), (19, .int (oi ro0))]) hx hb dL_isSame_423 hl (by decide) rfl (fun ls hl => ?_)
                              have hl : lv_has ls 20 [(0, .ref (xb1 0 0)), (1, .ref (xb1 40 0)), (2, .ref (xb1 41 0)), (3, .ref (xb1 42 0)), (4, .ref (xb1 43 0)), (5, .ref (xb1 44 0)), (6, .ref (xb1 45 0)), (7, .int (nI (z))), (8, .int (nI (t))), (9, .int (nI (u))), (10, .int (nI (i))), (11, .int (nI (a))), (12, .int (nI (y))), (13, .int (nI (q))), (14, .int (nI (v_127))), (15, .int (nI (bb))), (16, .int (nI (1))), (17, .int (nI (v_423_0))), (18, .int (nI (0))), (19, .int (oi ro0))] := lv_sub hl [1, 2, 3, 4, 5, 6, 7, 8, 9, 10, 11, 12, 13, 14, 15, 16, 17, 0, 18, 19] rfl
                              refine lv_iinc (v := nI (1)) (lv' := [(18, .int (nI (1))), (0, .ref (xb1 0 0)), (1, .ref (xb1 40 0)), (2, .ref (xb1 41 0)), (3, .ref (xb1 42 0)), (4, .ref (xb1 43 0)), (5, .ref (xb1 44 0)), (6, .ref (xb1 45 0)), (7, .int (nI (z))), (8, .int (nI (t))), (9, .int (nI (u))), (10, .int (nI (i))), (11, .int (nI (a))), (12, .int (nI (y))), (13, .int (nI (q))), (14, .int (nI (v_127))), (15, .int (nI (bb))), (16, .int (nI (1))), (17, .int (nI (v_423_0))), (19, .int (oi ro0))]) hx hb dL_isSame_425 hl (k := 18) rfl (x_inc 0 1 rfl) (by decide) rfl (fun ls hl => ?_)
                              have hl : lv_has ls 20 [(0, .ref (xb1 0 0)), (1, .ref (xb1 40 0)), (2, .ref (xb1 41 0)), (3, .ref (xb1 42 0)), (4, .ref (xb1 43 0)), (5, .ref (xb1 44 0)), (6, .ref (xb1 45 0)), (7, .int (nI (z))), (8, .int (nI (t))), (9, .int (nI (u))), (10, .int (nI (i))), (11, .int (nI (a))), (12, .int (nI (y))), (13, .int (nI (q))), (14, .int (nI (v_127))), (15, .int (nI (bb))), (16, .int (nI (1))), (17, .int (nI (v_423_0))), (18, .int (nI (1))), (19, .int (oi ro0))] := lv_sub hl [1, 2, 3, 4, 5, 6, 7, 8, 9, 10, 11, 12, 13, 14, 15, 16, 17, 18, 0, 19] rfl
                              refine lv_goto (tgt := 340) hx hb dL_isSame_428 (by decide) ?_
                              refine lv_iload hx hb dL_isSame_340 (lv_at hl 18 rfl) ?_
                              refine lv_iconst (v := nI (3)) hx hb dL_isSame_342 (by decide +kernel) ?_
                              refine lv_icmp_ge (tgt := 431) hx hb dL_isSame_343 (by decide) (fun c_343 => ?_) (fun c_343 => ?_)
                              · -- ge taken
                                exact absurd c_343 (by decide)
                              · -- ge not
                                refine lv_iload hx hb dL_isSame_346 (lv_at hl 16 rfl) ?_
                                refine lv_if_eq (tgt := 431) hx hb dL_isSame_348 (by decide) (fun c_348 => ?_) (fun c_348 => ?_)
                                · -- eq taken
                                  exact absurd c_348 (by decide)
                                · -- eq not
                                  refine lv_aload_n hx hb dL_isSame_351 rfl (lv_at hl 1 rfl) ?_
                                  refine lv_aload_n hx hb dL_isSame_352 rfl (lv_at hl 2 rfl) ?_
                                  refine lv_aload_n hx hb dL_isSame_353 rfl (lv_at hl 3 rfl) ?_
                                  refine lv_aload hx hb dL_isSame_354 (lv_at hl 5 rfl) ?_
                                  refine lv_aload hx hb dL_isSame_356 (lv_at hl 6 rfl) ?_
                                  refine lv_iload hx hb dL_isSame_358 (lv_at hl 18 rfl) ?_
                                  refine xs_i (As := [.ref (xb1 40 0), .ref (xb1 41 0), .ref (xb1 42 0), .ref (xb1 44 0), .ref (xb1 45 0), .int (nI (1))]) (rest := []) ⟨hx, hb, hml, hown, hts⟩ (c_L_owner l D sa xb1 (xGs (LG D σ) D xb1 σ τ1) σ hI LA_x 1 (by omega)) (va_cwS 6 hts gL_isSame_L_owner rfl rfl rfl (by decide +kernel) ⟨Nat.le_of_ble_eq_true rfl, Nat.le_of_ble_eq_true rfl⟩) hW rfl rfl hl.1 (Nat.le_of_ble_eq_true rfl) dL_isSame_360 ⟨Nat.le_of_ble_eq_true rfl, Nat.le_of_ble_eq_true rfl⟩ (fun r_360 xa1 G1 H locs hp hW => ?_)
                                  obtain ⟨hu, ro1, hr_360, ho1⟩ := hp
                                  cases hu
                                  subst hr_360
                                  refine lv_istore (lv' := [(19, .int (oi ro1)), (0, .ref (xb1 0 0)), (1, .ref (xb1 40 0)), (2, .ref (xb1 41 0)), (3, .ref (xb1 42 0)), (4, .ref (xb1 43 0)), (5, .ref (xb1 44 0)), (6, .ref (xb1 45 0)), (7, .int (nI (z))), (8, .int (nI (t))), (9, .int (nI (u))), (10, .int (nI (i))), (11, .int (nI (a))), (12, .int (nI (y))), (13, .int (nI (q))), (14, .int (nI (v_127))), (15, .int (nI (bb))), (16, .int (nI (1))), (17, .int (nI (v_423_0))), (18, .int (nI (1)))]) hx hb dL_isSame_363 hl (by decide) rfl (fun ls hl => ?_)
                                  have hl : lv_has ls 20 [(0, .ref (xb1 0 0)), (1, .ref (xb1 40 0)), (2, .ref (xb1 41 0)), (3, .ref (xb1 42 0)), (4, .ref (xb1 43 0)), (5, .ref (xb1 44 0)), (6, .ref (xb1 45 0)), (7, .int (nI (z))), (8, .int (nI (t))), (9, .int (nI (u))), (10, .int (nI (i))), (11, .int (nI (a))), (12, .int (nI (y))), (13, .int (nI (q))), (14, .int (nI (v_127))), (15, .int (nI (bb))), (16, .int (nI (1))), (17, .int (nI (v_423_0))), (18, .int (nI (1))), (19, .int (oi ro1))] := lv_sub hl [1, 2, 3, 4, 5, 6, 7, 8, 9, 10, 11, 12, 13, 14, 15, 16, 17, 18, 19, 0] rfl
                                  refine lv_aload_n hx hb dL_isSame_365 rfl (lv_at hl 0 rfl) ?_
                                  refine lv_iload hx hb dL_isSame_366 (lv_at hl 18 rfl) ?_
                                  refine yg_i (k := 0) (i := 0) (As := [.int (nI (1))]) (rest := []) ⟨hx, hb, hml, hown, hts⟩ (c_X4_owner l hst0 D sa xb1 (LG D σ) σ τ1 hg hL1 (nI (1))) (fun E => pxk_no (pT_of (i := 1) (by omega) (by omega)) trivial trivial) (cwV 1 hts gL_isSame_X4_owner rfl rfl rfl (by decide +kernel) ⟨Nat.le_of_ble_eq_true rfl, Nat.le_of_ble_eq_true rfl⟩) hW (xg_x (LG D σ) D xb1 σ τ1) rfl rfl rfl rfl hl.1 (Nat.le_of_ble_eq_true rfl) dL_isSame_368 ⟨Nat.le_of_ble_eq_true rfl, Nat.le_of_ble_eq_true rfl⟩ (fun r_368 xa1 G1 H locs hp hW => ?_)
                                  obtain ⟨-, hu, hr_368⟩ := hp
                                  cases hu
                                  obtain ⟨o_, hr_, hown_⟩ := hr_368
                                  rw [xn_nI (n := 1) (by omega)] at hown_
                                  cases own.uniq hown_ ho1
                                  subst hr_
                                  refine lv_iload hx hb dL_isSame_371 (lv_at hl 19 rfl) ?_
                                  refine lv_icmp_ne (tgt := 391) hx hb dL_isSame_373 (by decide) (fun c_373 => ?_) (fun c_373 => ?_)
                                  · -- ne taken
                                    exact absurd rfl c_373
                                  · -- ne not
                                    refine lv_aload_n hx hb dL_isSame_376 rfl (lv_at hl 0 rfl) ?_
                                    refine lv_iload hx hb dL_isSame_377 (lv_at hl 18 rfl) ?_
                                    refine yg_i (k := 0) (i := 0) (As := [.int (nI (1))]) (rest := []) ⟨hx, hb, hml, hown, hts⟩ (c_X4_ownerAnew l hst0 D sa xb1 (LG D σ) σ τ1 hg hL1 hT1 (nI (1))) (fun E => pxk_no (pT_of (i := 1) (by omega) (by omega)) trivial trivial) (cwV 1 hts gL_isSame_X4_ownerAnew rfl rfl rfl (by decide +kernel) ⟨Nat.le_of_ble_eq_true rfl, Nat.le_of_ble_eq_true rfl⟩) hW (xg_x (LG D σ) D xb1 σ τ1) rfl rfl rfl rfl hl.1 (Nat.le_of_ble_eq_true rfl) dL_isSame_379 ⟨Nat.le_of_ble_eq_true rfl, Nat.le_of_ble_eq_true rfl⟩ (fun r_379 xa1 G1 H locs hp hW => ?_)
                                    obtain ⟨-, xb2, τ2, hag2, hu, hL2, hT2, o_, hr_, hown_⟩ := hp
                                    have hu2 : G1 = _ := congrArg Prod.snd hu
                                    subst hu2
                                    have hu1 : xb2 = xa1 := (congrArg Prod.fst hu).symm
                                    subst hu1
                                    rw [xn_nI (n := 1) (by omega)] at hown_
                                    cases own.uniq hown_ ho1
                                    subst hr_
                                    have hl : lv_has ls 20 [(0, .ref (xb2 0 0)), (1, .ref (xb2 40 0)), (2, .ref (xb2 41 0)), (3, .ref (xb2 42 0)), (4, .ref (xb2 43 0)), (5, .ref (xb2 44 0)), (6, .ref (xb2 45 0)), (7, .int (nI (z))), (8, .int (nI (t))), (9, .int (nI (u))), (10, .int (nI (i))), (11, .int (nI (a))), (12, .int (nI (y))), (13, .int (nI (q))), (14, .int (nI (v_127))), (15, .int (nI (bb))), (16, .int (nI (1))), (17, .int (nI (v_423_0))), (18, .int (nI (1))), (19, .int (oi ro1))] := by rw [hag2 0 0 (by omega), hag2 40 0 (by omega), hag2 41 0 (by omega), hag2 42 0 (by omega), hag2 43 0 (by omega), hag2 44 0 (by omega), hag2 45 0 (by omega)]; exact hl
                                    have hag2 := fun k i h => (hag2 k i h).trans (hag1 k i h)
                                    refine lv_iload hx hb dL_isSame_382 (lv_at hl 19 rfl) ?_
                                    refine lv_icmp_ne (tgt := 391) hx hb dL_isSame_384 (by decide) (fun c_384 => ?_) (fun c_384 => ?_)
                                    · -- ne taken
                                      exact absurd rfl c_384
                                    · -- ne not
                                      refine lv_iconst (v := nI (1)) hx hb dL_isSame_387 (by decide +kernel) ?_
                                      refine lv_goto (tgt := 392) hx hb dL_isSame_388 (by decide) ?_
                                      refine lv_istore (lv' := [(16, .int (nI (1))), (0, .ref (xb2 0 0)), (1, .ref (xb2 40 0)), (2, .ref (xb2 41 0)), (3, .ref (xb2 42 0)), (4, .ref (xb2 43 0)), (5, .ref (xb2 44 0)), (6, .ref (xb2 45 0)), (7, .int (nI (z))), (8, .int (nI (t))), (9, .int (nI (u))), (10, .int (nI (i))), (11, .int (nI (a))), (12, .int (nI (y))), (13, .int (nI (q))), (14, .int (nI (v_127))), (15, .int (nI (bb))), (17, .int (nI (v_423_0))), (18, .int (nI (1))), (19, .int (oi ro1))]) hx hb dL_isSame_392 hl (by decide) rfl (fun ls hl => ?_)
                                      have hl : lv_has ls 20 [(0, .ref (xb2 0 0)), (1, .ref (xb2 40 0)), (2, .ref (xb2 41 0)), (3, .ref (xb2 42 0)), (4, .ref (xb2 43 0)), (5, .ref (xb2 44 0)), (6, .ref (xb2 45 0)), (7, .int (nI (z))), (8, .int (nI (t))), (9, .int (nI (u))), (10, .int (nI (i))), (11, .int (nI (a))), (12, .int (nI (y))), (13, .int (nI (q))), (14, .int (nI (v_127))), (15, .int (nI (bb))), (16, .int (nI (1))), (17, .int (nI (v_423_0))), (18, .int (nI (1))), (19, .int (oi ro1))] := lv_sub hl [1, 2, 3, 4, 5, 6, 7, 8, 9, 10, 11, 12, 13, 14, 15, 16, 0, 17, 18, 19] rfl
                                      refine x_joinN (ls := ls) (D := D) (sa := sa) (A := A) (xa := xb2) (G := xGs (LG D σ) D xb2 σ τ2) (P := fun v_ => cnt σ i (1 + 1) v_) (mpc := 423) (rest := []) (fun H locs v_423_1 hW h_423 => ?_) (fun J423 => ?_)
                                      · try dsimp only at h_423
                                        have hcnt := h_423
                                        have hcl := cnt_le hcnt
                                        refine lv_istore (lv' := [(17, .int (nI (v_423_1))), (0, .ref (xb2 0 0)), (1, .ref (xb2 40 0)), (2, .ref (xb2 41 0)), (3, .ref (xb2 42 0)), (4, .ref (xb2 43 0)), (5, .ref (xb2 44 0)), (6, .ref (xb2 45 0)), (7, .int (nI (z))), (8, .int (nI (t))), (9, .int (nI (u))), (10, .int (nI (i))), (11, .int (nI (a))), (12, .int (nI (y))), (13, .int (nI (q))), (14, .int (nI (v_127))), (15, .int (nI (bb))), (16, .int (nI (1))), (18, .int (nI (1))), (19, .int (oi ro1))]) hx hb dL_isSame_423 hl (by decide) rfl (fun ls hl => ?_)
                                        have hl : lv_has ls 20 [(0, .ref (xb2 0 0)), (1, .ref (xb2 40 0)), (2, .ref (xb2 41 0)), (3, .ref (xb2 42 0)), (4, .ref (xb2 43 0)), (5, .ref (xb2 44 0)), (6, .ref (xb2 45 0)), (7, .int (nI (z))), (8, .int (nI (t))), (9, .int (nI (u))), (10, .int (nI (i))), (11, .int (nI (a))), (12, .int (nI (y))), (13, .int (nI (q))), (14, .int (nI (v_127))), (15, .int (nI (bb))), (16, .int (nI (1))), (17, .int (nI (v_423_1))), (18, .int (nI (1))), (19, .int (oi ro1))] := lv_sub hl [1, 2, 3, 4, 5, 6, 7, 8, 9, 10, 11, 12, 13, 14, 15, 16, 17, 0, 18, 19] rfl
                                        refine lv_iinc (v := nI (2)) (lv' := [(18, .int (nI (2))), (0, .ref (xb2 0 0)), (1, .ref (xb2 40 0)), (2, .ref (xb2 41 0)), (3, .ref (xb2 42 0)), (4, .ref (xb2 43 0)), (5, .ref (xb2 44 0)), (6, .ref (xb2 45 0)), (7, .int (nI (z))), (8, .int (nI (t))), (9, .int (nI (u))), (10, .int (nI (i))), (11, .int (nI (a))), (12, .int (nI (y))), (13, .int (nI (q))), (14, .int (nI (v_127))), (15, .int (nI (bb))), (16, .int (nI (1))), (17, .int (nI (v_423_1))), (19, .int (oi ro1))]) hx hb dL_isSame_425 hl (k := 18) rfl (x_inc 1 1 rfl) (by decide) rfl (fun ls hl => ?_)
                                        have hl : lv_has ls 20 [(0, .ref (xb2 0 0)), (1, .ref (xb2 40 0)), (2, .ref (xb2 41 0)), (3, .ref (xb2 42 0)), (4, .ref (xb2 43 0)), (5, .ref (xb2 44 0)), (6, .ref (xb2 45 0)), (7, .int (nI (z))), (8, .int (nI (t))), (9, .int (nI (u))), (10, .int (nI (i))), (11, .int (nI (a))), (12, .int (nI (y))), (13, .int (nI (q))), (14, .int (nI (v_127))), (15, .int (nI (bb))), (16, .int (nI (1))), (17, .int (nI (v_423_1))), (18, .int (nI (2))), (19, .int (oi ro1))] := lv_sub hl [1, 2, 3, 4, 5, 6, 7, 8, 9, 10, 11, 12, 13, 14, 15, 16, 17, 18, 0, 19] rfl
                                        refine lv_goto (tgt := 340) hx hb dL_isSame_428 (by decide) ?_
                                        refine lv_iload hx hb dL_isSame_340 (lv_at hl 18 rfl) ?_
                                        refine lv_iconst (v := nI (3)) hx hb dL_isSame_342 (by decide +kernel) ?_
                                        refine lv_icmp_ge (tgt := 431) hx hb dL_isSame_343 (by decide) (fun c_343 => ?_) (fun c_343 => ?_)
                                        · -- ge taken
                                          exact absurd c_343 (by decide)
                                        · -- ge not
                                          refine lv_iload hx hb dL_isSame_346 (lv_at hl 16 rfl) ?_
                                          refine lv_if_eq (tgt := 431) hx hb dL_isSame_348 (by decide) (fun c_348 => ?_) (fun c_348 => ?_)
                                          · -- eq taken
                                            exact absurd c_348 (by decide)
                                          · -- eq not
                                            refine lv_aload_n hx hb dL_isSame_351 rfl (lv_at hl 1 rfl) ?_
                                            refine lv_aload_n hx hb dL_isSame_352 rfl (lv_at hl 2 rfl) ?_
                                            refine lv_aload_n hx hb dL_isSame_353 rfl (lv_at hl 3 rfl) ?_
                                            refine lv_aload hx hb dL_isSame_354 (lv_at hl 5 rfl) ?_
                                            refine lv_aload hx hb dL_isSame_356 (lv_at hl 6 rfl) ?_
                                            refine lv_iload hx hb dL_isSame_358 (lv_at hl 18 rfl) ?_
                                            refine xs_i (As := [.ref (xb2 40 0), .ref (xb2 41 0), .ref (xb2 42 0), .ref (xb2 44 0), .ref (xb2 45 0), .int (nI (2))]) (rest := []) ⟨hx, hb, hml, hown, hts⟩ (c_L_owner l D sa xb2 (xGs (LG D σ) D xb2 σ τ2) σ hI LA_x 2 (by omega)) (va_cwS 6 hts gL_isSame_L_owner rfl rfl rfl (by decide +kernel) ⟨Nat.le_of_ble_eq_true rfl, Nat.le_of_ble_eq_true rfl⟩) hW rfl rfl hl.1 (Nat.le_of_ble_eq_true rfl) dL_isSame_360 ⟨Nat.le_of_ble_eq_true rfl, Nat.le_of_ble_eq_true rfl⟩ (fun r_360 xa1 G1 H locs hp hW => ?_)
                                            obtain ⟨hu, ro2, hr_360, ho2⟩ := hp
                                            cases hu
                                            subst hr_360
                                            refine lv_istore (lv' := [(19, .int (oi ro2)), (0, .ref (xb2 0 0)), (1, .ref (xb2 40 0)), (2, .ref (xb2 41 0)), (3, .ref (xb2 42 0)), (4, .ref (xb2 43 0)), (5, .ref (xb2 44 0)), (6, .ref (xb2 45 0)), (7, .int (nI (z))), (8, .int (nI (t))), (9, .int (nI (u))), (10, .int (nI (i))), (11, .int (nI (a))), (12, .int (nI (y))), (13, .int (nI (q))), (14, .int (nI (v_127))), (15, .int (nI (bb))), (16, .int (nI (1))), (17, .int (nI (v_423_1))), (18, .int (nI (2)))]) hx hb dL_isSame_363 hl (by decide) rfl (fun ls hl => ?_)
                                            have hl : lv_has ls 20 [(0, .ref (xb2 0 0)), (1, .ref (xb2 40 0)), (2, .ref (xb2 41 0)), (3, .ref (xb2 42 0)), (4, .ref (xb2 43 0)), (5, .ref (xb2 44 0)), (6, .ref (xb2 45 0)), (7, .int (nI (z))), (8, .int (nI (t))), (9, .int (nI (u))), (10, .int (nI (i))), (11, .int (nI (a))), (12, .int (nI (y))), (13, .int (nI (q))), (14, .int (nI (v_127))), (15, .int (nI (bb))), (16, .int (nI (1))), (17, .int (nI (v_423_1))), (18, .int (nI (2))), (19, .int (oi ro2))] := lv_sub hl [1, 2, 3, 4, 5, 6, 7, 8, 9, 10, 11, 12, 13, 14, 15, 16, 17, 18, 19, 0] rfl
                                            refine lv_aload_n hx hb dL_isSame_365 rfl (lv_at hl 0 rfl) ?_
                                            refine lv_iload hx hb dL_isSame_366 (lv_at hl 18 rfl) ?_
                                            refine yg_i (k := 0) (i := 0) (As := [.int (nI (2))]) (rest := []) ⟨hx, hb, hml, hown, hts⟩ (c_X4_owner l hst0 D sa xb2 (LG D σ) σ τ2 hg hL2 (nI (2))) (fun E => pxk_no (pT_of (i := 2) (by omega) (by omega)) trivial trivial) (cwV 1 hts gL_isSame_X4_owner rfl rfl rfl (by decide +kernel) ⟨Nat.le_of_ble_eq_true rfl, Nat.le_of_ble_eq_true rfl⟩) hW (xg_x (LG D σ) D xb2 σ τ2) rfl rfl rfl rfl hl.1 (Nat.le_of_ble_eq_true rfl) dL_isSame_368 ⟨Nat.le_of_ble_eq_true rfl, Nat.le_of_ble_eq_true rfl⟩ (fun r_368 xa1 G1 H locs hp hW => ?_)
                                            obtain ⟨-, hu, hr_368⟩ := hp
                                            cases hu
                                            obtain ⟨o_, hr_, hown_⟩ := hr_368
                                            rw [xn_nI (n := 2) (by omega)] at hown_
                                            cases own.uniq hown_ ho2
                                            subst hr_
                                            refine lv_iload hx hb dL_isSame_371 (lv_at hl 19 rfl) ?_
                                            refine lv_icmp_ne (tgt := 391) hx hb dL_isSame_373 (by decide) (fun c_373 => ?_) (fun c_373 => ?_)
                                            · -- ne taken
                                              exact absurd rfl c_373
                                            · -- ne not
                                              refine lv_aload_n hx hb dL_isSame_376 rfl (lv_at hl 0 rfl) ?_
                                              refine lv_iload hx hb dL_isSame_377 (lv_at hl 18 rfl) ?_
                                              refine yg_i (k := 0) (i := 0) (As := [.int (nI (2))]) (rest := []) ⟨hx, hb, hml, hown, hts⟩ (c_X4_ownerAnew l hst0 D sa xb2 (LG D σ) σ τ2 hg hL2 hT2 (nI (2))) (fun E => pxk_no (pT_of (i := 2) (by omega) (by omega)) trivial trivial) (cwV 1 hts gL_isSame_X4_ownerAnew rfl rfl rfl (by decide +kernel) ⟨Nat.le_of_ble_eq_true rfl, Nat.le_of_ble_eq_true rfl⟩) hW (xg_x (LG D σ) D xb2 σ τ2) rfl rfl rfl rfl hl.1 (Nat.le_of_ble_eq_true rfl) dL_isSame_379 ⟨Nat.le_of_ble_eq_true rfl, Nat.le_of_ble_eq_true rfl⟩ (fun r_379 xa1 G1 H locs hp hW => ?_)
                                              obtain ⟨-, xb3, τ3, hag3, hu, hL3, hT3, o_, hr_, hown_⟩ := hp
                                              have hu2 : G1 = _ := congrArg Prod.snd hu
                                              subst hu2
                                              have hu1 : xb3 = xa1 := (congrArg Prod.fst hu).symm
                                              subst hu1
                                              rw [xn_nI (n := 2) (by omega)] at hown_
                                              cases own.uniq hown_ ho2
                                              subst hr_
                                              have hl : lv_has ls 20 [(0, .ref (xb3 0 0)), (1, .ref (xb3 40 0)), (2, .ref (xb3 41 0)), (3, .ref (xb3 42 0)), (4, .ref (xb3 43 0)), (5, .ref (xb3 44 0)), (6, .ref (xb3 45 0)), (7, .int (nI (z))), (8, .int (nI (t))), (9, .int (nI (u))), (10, .int (nI (i))), (11, .int (nI (a))), (12, .int (nI (y))), (13, .int (nI (q))), (14, .int (nI (v_127))), (15, .int (nI (bb))), (16, .int (nI (1))), (17, .int (nI (v_423_1))), (18, .int (nI (2))), (19, .int (oi ro2))] := by rw [hag3 0 0 (by omega), hag3 40 0 (by omega), hag3 41 0 (by omega), hag3 42 0 (by omega), hag3 43 0 (by omega), hag3 44 0 (by omega), hag3 45 0 (by omega)]; exact hl
                                              have hag3 := fun k i h => (hag3 k i h).trans (hag2 k i h)
                                              refine lv_iload hx hb dL_isSame_382 (lv_at hl 19 rfl) ?_
                                              refine lv_icmp_ne (tgt := 391) hx hb dL_isSame_384 (by decide) (fun c_384 => ?_) (fun c_384 => ?_)
                                              · -- ne taken
                                                exact absurd rfl c_384
                                              · -- ne not
                                                refine lv_iconst (v := nI (1)) hx hb dL_isSame_387 (by decide +kernel) ?_
                                                refine lv_goto (tgt := 392) hx hb dL_isSame_388 (by decide) ?_
                                                refine lv_istore (lv' := [(16, .int (nI (1))), (0, .ref (xb3 0 0)), (1, .ref (xb3 40 0)), (2, .ref (xb3 41 0)), (3, .ref (xb3 42 0)), (4, .ref (xb3 43 0)), (5, .ref (xb3 44 0)), (6, .ref (xb3 45 0)), (7, .int (nI (z))), (8, .int (nI (t))), (9, .int (nI (u))), (10, .int (nI (i))), (11, .int (nI (a))), (12, .int (nI (y))), (13, .int (nI (q))), (14, .int (nI (v_127))), (15, .int (nI (bb))), (17, .int (nI (v_423_1))), (18, .int (nI (2))), (19, .int (oi ro2))]) hx hb dL_isSame_392 hl (by decide) rfl (fun ls hl => ?_)
                                                have hl : lv_has ls 20 [(0, .ref (xb3 0 0)), (1, .ref (xb3 40 0)), (2, .ref (xb3 41 0)), (3, .ref (xb3 42 0)), (4, .ref (xb3 43 0)), (5, .ref (xb3 44 0)), (6, .ref (xb3 45 0)), (7, .int (nI (z))), (8, .int (nI (t))), (9, .int (nI (u))), (10, .int (nI (i))), (11, .int (nI (a))), (12, .int (nI (y))), (13, .int (nI (q))), (14, .int (nI (v_127))), (15, .int (nI (bb))), (16, .int (nI (1))), (17, .int (nI (v_423_1))), (18, .int (nI (2))), (19, .int (oi ro2))] := lv_sub hl [1, 2, 3, 4, 5, 6, 7, 8, 9, 10, 11, 12, 13, 14, 15, 16, 0, 17, 18, 19] rfl
                                                refine x_joinN (ls := ls) (D := D) (sa := sa) (A := A) (xa := xb3) (G := xGs (LG D σ) D xb3 σ τ3) (P := fun v_ => cnt σ i (2 + 1) v_) (mpc := 423) (rest := []) (fun H locs v_423_2 hW h_423 => ?_) (fun J423 => ?_)
                                                · try dsimp only at h_423
                                                  have hcnt := h_423
                                                  have hcl := cnt_le hcnt
                                                  refine lv_istore (lv' := [(17, .int (nI (v_423_2))), (0, .ref (xb3 0 0)), (1, .ref (xb3 40 0)), (2, .ref (xb3 41 0)), (3, .ref (xb3 42 0)), (4, .ref (xb3 43 0)), (5, .ref (xb3 44 0)), (6, .ref (xb3 45 0)), (7, .int (nI (z))), (8, .int (nI (t))), (9, .int (nI (u))), (10, .int (nI (i))), (11, .int (nI (a))), (12, .int (nI (y))), (13, .int (nI (q))), (14, .int (nI (v_127))), (15, .int (nI (bb))), (16, .int (nI (1))), (18, .int (nI (2))), (19, .int (oi ro2))]) hx hb dL_isSame_423 hl (by decide) rfl (fun ls hl => ?_)
                                                  have hl : lv_has ls 20 [(0, .ref (xb3 0 0)), (1, .ref (xb3 40 0)), (2, .ref (xb3 41 0)), (3, .ref (xb3 42 0)), (4, .ref (xb3 43 0)), (5, .ref (xb3 44 0)), (6, .ref (xb3 45 0)), (7, .int (nI (z))), (8, .int (nI (t))), (9, .int (nI (u))), (10, .int (nI (i))), (11, .int (nI (a))), (12, .int (nI (y))), (13, .int (nI (q))), (14, .int (nI (v_127))), (15, .int (nI (bb))), (16, .int (nI (1))), (17, .int (nI (v_423_2))), (18, .int (nI (2))), (19, .int (oi ro2))] := lv_sub hl [1, 2, 3, 4, 5, 6, 7, 8, 9, 10, 11, 12, 13, 14, 15, 16, 17, 0, 18, 19] rfl
                                                  refine lv_iinc (v := nI (3)) (lv' := [(18, .int (nI (3))), (0, .ref (xb3 0 0)), (1, .ref (xb3 40 0)), (2, .ref (xb3 41 0)), (3, .ref (xb3 42 0)), (4, .ref (xb3 43 0)), (5, .ref (xb3 44 0)), (6, .ref (xb3 45 0)), (7, .int (nI (z))), (8, .int (nI (t))), (9, .int (nI (u))), (10, .int (nI (i))), (11, .int (nI (a))), (12, .int (nI (y))), (13, .int (nI (q))), (14, .int (nI (v_127))), (15, .int (nI (bb))), (16, .int (nI (1))), (17, .int (nI (v_423_2))), (19, .int (oi ro2))]) hx hb dL_isSame_425 hl (k := 18) rfl (x_inc 2 1 rfl) (by decide) rfl (fun ls hl => ?_)
                                                  have hl : lv_has ls 20 [(0, .ref (xb3 0 0)), (1, .ref (xb3 40 0)), (2, .ref (xb3 41 0)), (3, .ref (xb3 42 0)), (4, .ref (xb3 43 0)), (5, .ref (xb3 44 0)), (6, .ref (xb3 45 0)), (7, .int (nI (z))), (8, .int (nI (t))), (9, .int (nI (u))), (10, .int (nI (i))), (11, .int (nI (a))), (12, .int (nI (y))), (13, .int (nI (q))), (14, .int (nI (v_127))), (15, .int (nI (bb))), (16, .int (nI (1))), (17, .int (nI (v_423_2))), (18, .int (nI (3))), (19, .int (oi ro2))] := lv_sub hl [1, 2, 3, 4, 5, 6, 7, 8, 9, 10, 11, 12, 13, 14, 15, 16, 17, 18, 0, 19] rfl
                                                  refine lv_goto (tgt := 340) hx hb dL_isSame_428 (by decide) ?_
                                                  refine lv_iload hx hb dL_isSame_340 (lv_at hl 18 rfl) ?_
                                                  refine lv_iconst (v := nI (3)) hx hb dL_isSame_342 (by decide +kernel) ?_
                                                  refine lv_icmp_ge (tgt := 431) hx hb dL_isSame_343 (by decide) (fun c_343 => ?_) (fun c_343 => ?_)
                                                  · -- ge taken
                                                    refine lv_iload hx hb dL_isSame_431 (lv_at hl 16 rfl) ?_
                                                    refine lv_if_eq (tgt := 451) hx hb dL_isSame_433 (by decide) (fun c_433 => ?_) (fun c_433 => ?_)
                                                    · -- eq taken
                                                      exact absurd c_433 (by decide)
                                                    · -- eq not
                                                      refine lv_aload_n hx hb dL_isSame_436 rfl (lv_at hl 0 rfl) ?_
                                                      refine lv_iload hx hb dL_isSame_437 (lv_at hl 10 rfl) ?_
                                                      refine yg_i (k := 0) (i := 0) (As := [.int (nI (i))]) (rest := []) ⟨hx, hb, hml, hown, hts⟩ (c_X4_asks l hst0 D sa xb3 (LG D σ) σ τ3 hg hL3 (nI (i))) (fun E => pxk_no (pP_of (i := i) (by omega) (by omega)) trivial trivial) (cwV 1 hts gL_isSame_X4_asks rfl rfl rfl (by decide +kernel) ⟨Nat.le_of_ble_eq_true rfl, Nat.le_of_ble_eq_true rfl⟩) hW (xg_x (LG D σ) D xb3 σ τ3) rfl rfl rfl rfl hl.1 (Nat.le_of_ble_eq_true rfl) dL_isSame_439 ⟨Nat.le_of_ble_eq_true rfl, Nat.le_of_ble_eq_true rfl⟩ (fun r_439 xa1 G1 H locs hp hW => ?_)
                                                      obtain ⟨-, hu, hr_439⟩ := hp
                                                      cases hu
                                                      obtain ⟨n_, hr_, hcn_⟩ := hr_439
                                                      rw [xn_nI (n := i) (by omega), h12] at hcn_
                                                      have hcu := cnt.uniq hcn_ hcnt
                                                      rw [hcu] at hr_
                                                      subst hr_
                                                      refine lv_iload hx hb dL_isSame_442 (lv_at hl 17 rfl) ?_
                                                      refine lv_icmp_ne (tgt := 451) hx hb dL_isSame_444 (by decide) (fun c_444 => ?_) (fun c_444 => ?_)
                                                      · -- ne taken
                                                        exact absurd rfl c_444
                                                      · -- ne not
                                                        refine lv_iconst (v := nI (1)) hx hb dL_isSame_447 (by decide +kernel) ?_
                                                        refine lv_goto (tgt := 452) hx hb dL_isSame_448 (by decide) ?_
                                                        exact xe_i hx hb hr rfl hlocks hW ⟨xb3, τ3, hag3, rfl, hL3, hT3, rfl⟩ (Nat.le_of_ble_eq_true rfl) (Nat.le_of_ble_eq_true rfl) dL_isSame_452
                                                  · -- ge not
                                                    exact absurd (by decide) c_343
                                                ·
                                                  refine lv_iload hx hb dL_isSame_394 (lv_at hl 17 rfl) ?_
                                                  refine lv_iload hx hb dL_isSame_396 (lv_at hl 19 rfl) ?_
                                                  refine lv_iload hx hb dL_isSame_398 (lv_at hl 10 rfl) ?_
                                                  refine lv_icmp_ne (tgt := 421) hx hb dL_isSame_400 (by decide) (fun c_400 => ?_) (fun c_400 => ?_)
                                                  · -- ne taken
                                                    have c_400 : ¬ (ro2 = some (i)) := fun h_ => c_400 (by rw [h_]; rfl)
                                                    refine lv_iconst (v := nI (0)) hx hb dL_isSame_421 (by decide +kernel) ?_
                                                    refine lv_iadd hx hb dL_isSame_422 ?_
                                                    rw [nI_add]
                                                    exact J423 _ _ (v_423_1 + 0) hW (cnt_n1 hcnt ho2 c_400)
                                                  · -- ne not
                                                    have c_400 := oi_eq (by omega) (fun i h => by have := own_lt hg (by omega) ho2 h; omega) c_400
                                                    refine lv_aload hx hb dL_isSame_403 (lv_at hl 5 rfl) ?_
                                                    refine lv_aload hx hb dL_isSame_405 (lv_at hl 6 rfl) ?_
                                                    refine lv_iload hx hb dL_isSame_407 (lv_at hl 18 rfl) ?_
                                                    refine xs_i (As := [.ref (xb3 44 0), .ref (xb3 45 0), .int (nI (2))]) (rest := [.int (nI (v_423_1))]) ⟨hx, hb, hml, hown, hts⟩ (c_L_holder l D sa xb3 (xGs (LG D σ) D xb3 σ τ3) σ hI LA_x 2 (by omega)) (va_cwS 3 hts gL_isSame_L_holder rfl rfl rfl (by decide +kernel) ⟨Nat.le_of_ble_eq_true rfl, Nat.le_of_ble_eq_true rfl⟩) hW rfl rfl hl.1 (Nat.le_of_ble_eq_true rfl) dL_isSame_409 ⟨Nat.le_of_ble_eq_true rfl, Nat.le_of_ble_eq_true rfl⟩ (fun r_409 xa1 G1 H locs hp hW => ?_)
                                                    obtain ⟨hu, hr_409⟩ := hp
                                                    cases hu
                                                    subst hr_409
                                                    refine lv_iload hx hb dL_isSame_412 (lv_at hl 10 rfl) ?_
                                                    refine lv_icmp_eq (tgt := 421) hx hb dL_isSame_414 (by decide) (fun c_414 => ?_) (fun c_414 => ?_)
                                                    · -- eq taken
                                                      have c_414 := oi_eq (by omega) (fun i h => by have := hold_lt hg (i := 2) (by omega) h; omega) c_414
                                                      refine lv_iconst (v := nI (0)) hx hb dL_isSame_421 (by decide +kernel) ?_
                                                      refine lv_iadd hx hb dL_isSame_422 ?_
                                                      rw [nI_add]
                                                      exact J423 _ _ (v_423_1 + 0) hW (cnt_n2 hcnt ho2 c_414)
                                                    · -- eq not
                                                      have c_414 : ¬ (hold σ 2 = some (i)) := fun h_ => c_414 (by rw [h_]; rfl)
                                                      refine lv_iconst (v := nI (1)) hx hb dL_isSame_417 (by decide +kernel) ?_
                                                      refine lv_goto (tgt := 422) hx hb dL_isSame_418 (by decide) ?_
                                                      refine lv_iadd hx hb dL_isSame_422 ?_
                                                      rw [nI_add]
                                                      exact J423 _ _ (v_423_1 + 1) hW (cnt_y hcnt ho2 c_400 c_414)
                                      ·
                                        refine lv_iload hx hb dL_isSame_394 (lv_at hl 17 rfl) ?_
                                        refine lv_iload hx hb dL_isSame_396 (lv_at hl 19 rfl) ?_
                                        refine lv_iload hx hb dL_isSame_398 (lv_at hl 10 rfl) ?_
                                        refine lv_icmp_ne (tgt := 421) hx hb dL_isSame_400 (by decide) (fun c_400 => ?_) (fun c_400 => ?_)
                                        · -- ne taken
                                          have c_400 : ¬ (ro1 = some (i)) := fun h_ => c_400 (by rw [h_]; rfl)
                                          refine lv_iconst (v := nI (0)) hx hb dL_isSame_421 (by decide +kernel) ?_
                                          refine lv_iadd hx hb dL_isSame_422 ?_
                                          rw [nI_add]
                                          exact J423 _ _ (v_423_0 + 0) hW (cnt_n1 hcnt ho1 c_400)
                                        · -- ne not
                                          have c_400 := oi_eq (by omega) (fun i h => by have := own_lt hg (by omega) ho1 h; omega) c_400
                                          refine lv_aload hx hb dL_isSame_403 (lv_at hl 5 rfl) ?_
                                          refine lv_aload hx hb dL_isSame_405 (lv_at hl 6 rfl) ?_
                                          refine lv_iload hx hb dL_isSame_407 (lv_at hl 18 rfl) ?_
                                          refine xs_i (As := [.ref (xb2 44 0), .ref (xb2 45 0), .int (nI (1))]) (rest := [.int (nI (v_423_0))]) ⟨hx, hb, hml, hown, hts⟩ (c_L_holder l D sa xb2 (xGs (LG D σ) D xb2 σ τ2) σ hI LA_x 1 (by omega)) (va_cwS 3 hts gL_isSame_L_holder rfl rfl rfl (by decide +kernel) ⟨Nat.le_of_ble_eq_true rfl, Nat.le_of_ble_eq_true rfl⟩) hW rfl rfl hl.1 (Nat.le_of_ble_eq_true rfl) dL_isSame_409 ⟨Nat.le_of_ble_eq_true rfl, Nat.le_of_ble_eq_true rfl⟩ (fun r_409 xa1 G1 H locs hp hW => ?_)
                                          obtain ⟨hu, hr_409⟩ := hp
                                          cases hu
                                          subst hr_409
                                          refine lv_iload hx hb dL_isSame_412 (lv_at hl 10 rfl) ?_
                                          refine lv_icmp_eq (tgt := 421) hx hb dL_isSame_414 (by decide) (fun c_414 => ?_) (fun c_414 => ?_)
                                          · -- eq taken
                                            have c_414 := oi_eq (by omega) (fun i h => by have := hold_lt hg (i := 1) (by omega) h; omega) c_414
                                            refine lv_iconst (v := nI (0)) hx hb dL_isSame_421 (by decide +kernel) ?_
                                            refine lv_iadd hx hb dL_isSame_422 ?_
                                            rw [nI_add]
                                            exact J423 _ _ (v_423_0 + 0) hW (cnt_n2 hcnt ho1 c_414)
                                          · -- eq not
                                            have c_414 : ¬ (hold σ 1 = some (i)) := fun h_ => c_414 (by rw [h_]; rfl)
                                            refine lv_iconst (v := nI (1)) hx hb dL_isSame_417 (by decide +kernel) ?_
                                            refine lv_goto (tgt := 422) hx hb dL_isSame_418 (by decide) ?_
                                            refine lv_iadd hx hb dL_isSame_422 ?_
                                            rw [nI_add]
                                            exact J423 _ _ (v_423_0 + 1) hW (cnt_y hcnt ho1 c_400 c_414)
                            ·
                              refine lv_iload hx hb dL_isSame_394 (lv_at hl 17 rfl) ?_
                              refine lv_iload hx hb dL_isSame_396 (lv_at hl 19 rfl) ?_
                              refine lv_iload hx hb dL_isSame_398 (lv_at hl 10 rfl) ?_
                              refine lv_icmp_ne (tgt := 421) hx hb dL_isSame_400 (by decide) (fun c_400 => ?_) (fun c_400 => ?_)
                              · -- ne taken
                                have c_400 : ¬ (ro0 = some (i)) := fun h_ => c_400 (by rw [h_]; rfl)
                                refine lv_iconst (v := nI (0)) hx hb dL_isSame_421 (by decide +kernel) ?_
                                refine lv_iadd hx hb dL_isSame_422 ?_
                                rw [nI_add]
                                exact J423 _ _ (0 + 0) hW (cnt_n1 hcnt ho0 c_400)
                              · -- ne not
                                have c_400 := oi_eq (by omega) (fun i h => by have := own_lt hg (by omega) ho0 h; omega) c_400
                                refine lv_aload hx hb dL_isSame_403 (lv_at hl 5 rfl) ?_
                                refine lv_aload hx hb dL_isSame_405 (lv_at hl 6 rfl) ?_
                                refine lv_iload hx hb dL_isSame_407 (lv_at hl 18 rfl) ?_
                                refine xs_i (As := [.ref (xb1 44 0), .ref (xb1 45 0), .int (nI (0))]) (rest := [.int (nI (0))]) ⟨hx, hb, hml, hown, hts⟩ (c_L_holder l D sa xb1 (xGs (LG D σ) D xb1 σ τ1) σ hI LA_x 0 (by omega)) (va_cwS 3 hts gL_isSame_L_holder rfl rfl rfl (by decide +kernel) ⟨Nat.le_of_ble_eq_true rfl, Nat.le_of_ble_eq_true rfl⟩) hW rfl rfl hl.1 (Nat.le_of_ble_eq_true rfl) dL_isSame_409 ⟨Nat.le_of_ble_eq_true rfl, Nat.le_of_ble_eq_true rfl⟩ (fun r_409 xa1 G1 H locs hp hW => ?_)
                                obtain ⟨hu, hr_409⟩ := hp
                                cases hu
                                subst hr_409
                                refine lv_iload hx hb dL_isSame_412 (lv_at hl 10 rfl) ?_
                                refine lv_icmp_eq (tgt := 421) hx hb dL_isSame_414 (by decide) (fun c_414 => ?_) (fun c_414 => ?_)
                                · -- eq taken
                                  have c_414 := oi_eq (by omega) (fun i h => by have := hold_lt hg (i := 0) (by omega) h; omega) c_414
                                  refine lv_iconst (v := nI (0)) hx hb dL_isSame_421 (by decide +kernel) ?_
                                  refine lv_iadd hx hb dL_isSame_422 ?_
                                  rw [nI_add]
                                  exact J423 _ _ (0 + 0) hW (cnt_n2 hcnt ho0 c_414)
                                · -- eq not
                                  have c_414 : ¬ (hold σ 0 = some (i)) := fun h_ => c_414 (by rw [h_]; rfl)
                                  refine lv_iconst (v := nI (1)) hx hb dL_isSame_417 (by decide +kernel) ?_
                                  refine lv_goto (tgt := 422) hx hb dL_isSame_418 (by decide) ?_
                                  refine lv_iadd hx hb dL_isSame_422 ?_
                                  rw [nI_add]
                                  exact J423 _ _ (0 + 1) hW (cnt_y hcnt ho0 c_400 c_414)
                  ·
                    have h8t := hs8 t
                    by_cases hqc : q < σ 11 t
                    ·
                      refine lv_aload_n hx hb dL_isSame_232 rfl (lv_at hl 0 rfl) ?_
                      refine lv_iload hx hb dL_isSame_233 (lv_at hl 8 rfl) ?_
                      refine lv_iload hx hb dL_isSame_235 (lv_at hl 13 rfl) ?_
                      refine yg_i (k := 0) (i := 0) (As := [.int (nI (t)), .int (nI (q))]) (rest := []) ⟨hx, hb, hml, hown, hts⟩ (c_X4_stationAt l hst0 D sa xa (LG D σ) σ τ hg hL (nI (t)) (nI (q))) (fun E => pxk_no ⟨(pT_of (i := t) (by omega) (by omega)), by rw [nI_toInt (by omega)]; omega⟩ trivial trivial) (cwV 2 hts gL_isSame_X4_stationAt rfl rfl rfl (by decide +kernel) ⟨Nat.le_of_ble_eq_true rfl, Nat.le_of_ble_eq_true rfl⟩) hW (xg_x (LG D σ) D xa σ τ) rfl rfl rfl rfl hl.1 (Nat.le_of_ble_eq_true rfl) dL_isSame_237 ⟨Nat.le_of_ble_eq_true rfl, Nat.le_of_ble_eq_true rfl⟩ (fun r_237 xa1 G1 H locs hp hW => ?_)
                      obtain ⟨-, hu, hr_237⟩ := hp
                      cases hu
                      rw [xn_nI (n := t) (by omega), xn_nI (n := q) (by omega)] at hr_237
                      rw [if_pos hqc] at hr_237
                      subst hr_237
                      have hl := hl
                      show W _ _ _ _ _ _ _ _ _ _ _ _ _ _ _ (F0 _ 240 ls [.int (nI (ordr σ t q))])
                      refine lv_iload hx hb dL_isSame_240 (lv_at hl 13 rfl) ?_
                      refine lv_aload hx hb dL_isSame_242 (lv_at hl 6 rfl) ?_
                      refine lv_iconst (v := nI (2)) hx hb dL_isSame_244 (by decide +kernel) ?_
                      refine lv_iload hx hb dL_isSame_245 (lv_at hl 8 rfl) ?_
                      refine lv_iadd hx hb dL_isSame_247 ?_
                      rw [nI_add]
                      refine x_ild hx hb hW 45 0 (LA_45 LA_x) (2 + t) rfl (by omega) (by omega) (v := nI (σ 11 t)) (congrArg nI (mv_2 σ (t := t) (by omega))) dL_isSame_248 ?_
                      have b_248 := hB 11 t
                      refine lv_icmp_ge (tgt := 266) hx hb dL_isSame_249 (by decide) (fun c_249 => ?_) (fun c_249 => ?_)
                      · -- ge taken
                        have c_249 := Int32.le_iff_toInt_le.mp c_249
                        rw [nI_toInt (n := q) (by omega)] at c_249
                        rw [nI_toInt (n := σ 11 t) (by omega)] at c_249
                        exact absurd c_249 (by omega)
                      · -- ge not
                        have c_249 : ¬ ((nI (σ 11 t)).toInt ≤ (nI (q)).toInt) := fun h => c_249 (Int32.le_iff_toInt_le.mpr h)
                        rw [nI_toInt (n := q) (by omega)] at c_249
                        rw [nI_toInt (n := σ 11 t) (by omega)] at c_249
                        refine lv_aload hx hb dL_isSame_252 (lv_at hl 5 rfl) ?_
                        refine lv_aload hx hb dL_isSame_254 (lv_at hl 6 rfl) ?_
                        refine lv_iload hx hb dL_isSame_256 (lv_at hl 8 rfl) ?_
                        refine lv_iload hx hb dL_isSame_258 (lv_at hl 13 rfl) ?_
                        refine xs_i (As := [.ref (xa 44 0), .ref (xa 45 0), .int (nI (t)), .int (nI (q))]) (rest := [.int (nI (ordr σ t q))]) ⟨hx, hb, hml, hown, hts⟩ (c_L_at l D sa xa (xGs (LG D σ) D xa σ τ) σ hI LA_x t q (by omega) (by omega)) (va_cwS 4 hts gL_isSame_L_at rfl rfl rfl (by decide +kernel) ⟨Nat.le_of_ble_eq_true rfl, Nat.le_of_ble_eq_true rfl⟩) hW rfl rfl hl.1 (Nat.le_of_ble_eq_true rfl) dL_isSame_260 ⟨Nat.le_of_ble_eq_true rfl, Nat.le_of_ble_eq_true rfl⟩ (fun r_260 xa1 G1 H locs hp hW => ?_)
                        obtain ⟨hu, hr_260⟩ := hp
                        cases hu
                        subst hr_260
                        have bo_260 := ordr_lt (σ := σ) (i := t) (q := q) (by omega)
                        refine lv_goto (tgt := 267) hx hb dL_isSame_263 (by decide) ?_
                        refine lv_icmp_ne (tgt := 274) hx hb dL_isSame_267 (by decide) (fun c_267 => ?_) (fun c_267 => ?_)
                        · -- ne taken
                          exact absurd rfl c_267
                        · -- ne not
                          refine lv_iconst (v := nI (1)) hx hb dL_isSame_270 (by decide +kernel) ?_
                          refine lv_goto (tgt := 275) hx hb dL_isSame_271 (by decide) ?_
                          refine lv_istore (lv' := [(16, .int (nI (1))), (0, .ref (xa 0 0)), (1, .ref (xa 40 0)), (2, .ref (xa 41 0)), (3, .ref (xa 42 0)), (4, .ref (xa 43 0)), (5, .ref (xa 44 0)), (6, .ref (xa 45 0)), (7, .int (nI (z))), (8, .int (nI (t))), (9, .int (nI (u))), (10, .int (nI (i))), (11, .int (nI (a))), (12, .int (nI (y))), (13, .int (nI (q))), (14, .int (nI (v_127))), (15, .int (nI (bb)))]) hx hb dL_isSame_275 hl (by decide) rfl (fun ls hl => ?_)
                          have hl : lv_has ls 20 [(0, .ref (xa 0 0)), (1, .ref (xa 40 0)), (2, .ref (xa 41 0)), (3, .ref (xa 42 0)), (4, .ref (xa 43 0)), (5, .ref (xa 44 0)), (6, .ref (xa 45 0)), (7, .int (nI (z))), (8, .int (nI (t))), (9, .int (nI (u))), (10, .int (nI (i))), (11, .int (nI (a))), (12, .int (nI (y))), (13, .int (nI (q))), (14, .int (nI (v_127))), (15, .int (nI (bb))), (16, .int (nI (1)))] := lv_sub hl [1, 2, 3, 4, 5, 6, 7, 8, 9, 10, 11, 12, 13, 14, 15, 16, 0] rfl
                          refine lv_iload hx hb dL_isSame_277 (lv_at hl 13 rfl) ?_
                          refine lv_aload hx hb dL_isSame_279 (lv_at hl 6 rfl) ?_
                          refine lv_iconst (v := nI (2)) hx hb dL_isSame_281 (by decide +kernel) ?_
                          refine lv_iload hx hb dL_isSame_282 (lv_at hl 8 rfl) ?_
                          refine lv_iadd hx hb dL_isSame_284 ?_
                          rw [nI_add]
                          refine x_ild hx hb hW 45 0 (LA_45 LA_x) (2 + t) rfl (by omega) (by omega) (v := nI (σ 11 t)) (congrArg nI (mv_2 σ (t := t) (by omega))) dL_isSame_285 ?_
                          have b_285 := hB 11 t
                          refine lv_icmp_ge (tgt := 334) hx hb dL_isSame_286 (by decide) (fun c_286 => ?_) (fun c_286 => ?_)
                          · -- ge taken
                            have c_286 := Int32.le_iff_toInt_le.mp c_286
                            rw [nI_toInt (n := q) (by omega)] at c_286
                            rw [nI_toInt (n := σ 11 t) (by omega)] at c_286
                            exact absurd c_286 (by omega)
                          · -- ge not
                            have c_286 : ¬ ((nI (σ 11 t)).toInt ≤ (nI (q)).toInt) := fun h => c_286 (Int32.le_iff_toInt_le.mpr h)
                            rw [nI_toInt (n := q) (by omega)] at c_286
                            rw [nI_toInt (n := σ 11 t) (by omega)] at c_286
                            refine lv_iload hx hb dL_isSame_289 (lv_at hl 16 rfl) ?_
                            refine lv_if_eq (tgt := 334) hx hb dL_isSame_291 (by decide) (fun c_291 => ?_) (fun c_291 => ?_)
                            · -- eq taken
                              exact absurd c_291 (by decide)
                            · -- eq not
                              refine lv_aload_n hx hb dL_isSame_294 rfl (lv_at hl 0 rfl) ?_
                              refine lv_iload hx hb dL_isSame_295 (lv_at hl 8 rfl) ?_
                              refine lv_aload hx hb dL_isSame_297 (lv_at hl 5 rfl) ?_
                              refine lv_aload hx hb dL_isSame_299 (lv_at hl 6 rfl) ?_
                              refine lv_iload hx hb dL_isSame_301 (lv_at hl 8 rfl) ?_
                              refine lv_iload hx hb dL_isSame_303 (lv_at hl 13 rfl) ?_
                              refine xs_i (As := [.ref (xa 44 0), .ref (xa 45 0), .int (nI (t)), .int (nI (q))]) (rest := [.int (nI (t)), .ref (xa 0 0)]) ⟨hx, hb, hml, hown, hts⟩ (c_L_at l D sa xa (xGs (LG D σ) D xa σ τ) σ hI LA_x t q (by omega) (by omega)) (va_cwS 4 hts gL_isSame_L_at rfl rfl rfl (by decide +kernel) ⟨Nat.le_of_ble_eq_true rfl, Nat.le_of_ble_eq_true rfl⟩) hW rfl rfl hl.1 (Nat.le_of_ble_eq_true rfl) dL_isSame_305 ⟨Nat.le_of_ble_eq_true rfl, Nat.le_of_ble_eq_true rfl⟩ (fun r_305 xa1 G1 H locs hp hW => ?_)
                              obtain ⟨hu, hr_305⟩ := hp
                              cases hu
                              subst hr_305
                              have bo_305 := ordr_lt (σ := σ) (i := t) (q := q) (by omega)
                              refine yg_i (k := 0) (i := 0) (As := [.int (nI (t)), .int (nI (ordr σ t q))]) (rest := []) ⟨hx, hb, hml, hown, hts⟩ (c_X4_isLoss l hst0 D sa xa (LG D σ) σ τ hg hL (nI (t)) (nI (ordr σ t q))) (fun E => pxk_no (pS_of (i := t) (k := ordr σ t q) (by omega) (by omega) (by omega) (by omega)) trivial trivial) (cwV 2 hts gL_isSame_X4_isLoss rfl rfl rfl (by decide +kernel) ⟨Nat.le_of_ble_eq_true rfl, Nat.le_of_ble_eq_true rfl⟩) hW (xg_x (LG D σ) D xa σ τ) rfl rfl rfl rfl hl.1 (Nat.le_of_ble_eq_true rfl) dL_isSame_308 ⟨Nat.le_of_ble_eq_true rfl, Nat.le_of_ble_eq_true rfl⟩ (fun r_308 xa1 G1 H locs hp hW => ?_)
                              obtain ⟨-, hu, hr_308⟩ := hp
                              cases hu
                              rw [xn_nI (n := t) (by omega), xn_nI (n := ordr σ t q) (by omega)] at hr_308
                              have hr_308 := hr_308.to (lossT_iff hqc)
                              refine lv_aload_n hx hb dL_isSame_311 rfl (lv_at hl 1 rfl) ?_
                              refine lv_aload_n hx hb dL_isSame_312 rfl (lv_at hl 3 rfl) ?_
                              refine lv_aload hx hb dL_isSame_313 (lv_at hl 5 rfl) ?_
                              refine lv_aload hx hb dL_isSame_315 (lv_at hl 6 rfl) ?_
                              refine lv_iload hx hb dL_isSame_317 (lv_at hl 8 rfl) ?_
                              refine lv_iload hx hb dL_isSame_319 (lv_at hl 13 rfl) ?_
                              refine xs_i (As := [.ref (xa 40 0), .ref (xa 42 0), .ref (xa 44 0), .ref (xa 45 0), .int (nI (t)), .int (nI (q))]) (rest := [.int (r_308)]) ⟨hx, hb, hml, hown, hts⟩ (c_L_isLoss l D sa xa (xGs (LG D σ) D xa σ τ) σ hI LA_x t q (by omega) (by omega)) (va_cwS 6 hts gL_isSame_L_isLoss rfl rfl rfl (by decide +kernel) ⟨Nat.le_of_ble_eq_true rfl, Nat.le_of_ble_eq_true rfl⟩) hW rfl rfl hl.1 (Nat.le_of_ble_eq_true rfl) dL_isSame_321 ⟨Nat.le_of_ble_eq_true rfl, Nat.le_of_ble_eq_true rfl⟩ (fun r_321 xa1 G1 H locs hp hW => ?_)
                              obtain ⟨hu, hr_321⟩ := hp
                              cases hu
                              have e_321 := hr_308.uniq hr_321 Iff.rfl
                              subst e_321
                              refine lv_icmp_ne (tgt := 331) hx hb dL_isSame_324 (by decide) (fun c_324 => ?_) (fun c_324 => ?_)
                              · -- ne taken
                                exact absurd rfl c_324
                              · -- ne not
                                refine lv_iconst (v := nI (1)) hx hb dL_isSame_327 (by decide +kernel) ?_
                                refine lv_goto (tgt := 332) hx hb dL_isSame_328 (by decide) ?_
                                refine lv_istore (lv' := [(16, .int (nI (1))), (0, .ref (xa 0 0)), (1, .ref (xa 40 0)), (2, .ref (xa 41 0)), (3, .ref (xa 42 0)), (4, .ref (xa 43 0)), (5, .ref (xa 44 0)), (6, .ref (xa 45 0)), (7, .int (nI (z))), (8, .int (nI (t))), (9, .int (nI (u))), (10, .int (nI (i))), (11, .int (nI (a))), (12, .int (nI (y))), (13, .int (nI (q))), (14, .int (nI (v_127))), (15, .int (nI (bb)))]) hx hb dL_isSame_332 hl (by decide) rfl (fun ls hl => ?_)
                                have hl : lv_has ls 20 [(0, .ref (xa 0 0)), (1, .ref (xa 40 0)), (2, .ref (xa 41 0)), (3, .ref (xa 42 0)), (4, .ref (xa 43 0)), (5, .ref (xa 44 0)), (6, .ref (xa 45 0)), (7, .int (nI (z))), (8, .int (nI (t))), (9, .int (nI (u))), (10, .int (nI (i))), (11, .int (nI (a))), (12, .int (nI (y))), (13, .int (nI (q))), (14, .int (nI (v_127))), (15, .int (nI (bb))), (16, .int (nI (1)))] := lv_sub hl [1, 2, 3, 4, 5, 6, 7, 8, 9, 10, 11, 12, 13, 14, 15, 16, 0] rfl
                                refine W.widen (k := 12) (n := 72) (Nat.le_of_ble_eq_true rfl) (Nat.le_of_ble_eq_true rfl) ?_
                                exact J334 _ _ _ hW (hl)
                    ·
                      refine lv_aload_n hx hb dL_isSame_232 rfl (lv_at hl 0 rfl) ?_
                      refine lv_iload hx hb dL_isSame_233 (lv_at hl 8 rfl) ?_
                      refine lv_iload hx hb dL_isSame_235 (lv_at hl 13 rfl) ?_
                      refine yg_i (k := 0) (i := 0) (As := [.int (nI (t)), .int (nI (q))]) (rest := []) ⟨hx, hb, hml, hown, hts⟩ (c_X4_stationAt l hst0 D sa xa (LG D σ) σ τ hg hL (nI (t)) (nI (q))) (fun E => pxk_no ⟨(pT_of (i := t) (by omega) (by omega)), by rw [nI_toInt (by omega)]; omega⟩ trivial trivial) (cwV 2 hts gL_isSame_X4_stationAt rfl rfl rfl (by decide +kernel) ⟨Nat.le_of_ble_eq_true rfl, Nat.le_of_ble_eq_true rfl⟩) hW (xg_x (LG D σ) D xa σ τ) rfl rfl rfl rfl hl.1 (Nat.le_of_ble_eq_true rfl) dL_isSame_237 ⟨Nat.le_of_ble_eq_true rfl, Nat.le_of_ble_eq_true rfl⟩ (fun r_237 xa1 G1 H locs hp hW => ?_)
                      obtain ⟨-, hu, hr_237⟩ := hp
                      cases hu
                      rw [xn_nI (n := t) (by omega), xn_nI (n := q) (by omega)] at hr_237
                      rw [if_neg hqc] at hr_237
                      subst hr_237
                      show W _ _ _ _ _ _ _ _ _ _ _ _ _ _ _ (F0 _ 240 ls [.int (-1)])
                      refine lv_iload hx hb dL_isSame_240 (lv_at hl 13 rfl) ?_
                      refine lv_aload hx hb dL_isSame_242 (lv_at hl 6 rfl) ?_
                      refine lv_iconst (v := nI (2)) hx hb dL_isSame_244 (by decide +kernel) ?_
                      refine lv_iload hx hb dL_isSame_245 (lv_at hl 8 rfl) ?_
                      refine lv_iadd hx hb dL_isSame_247 ?_
                      rw [nI_add]
                      refine x_ild hx hb hW 45 0 (LA_45 LA_x) (2 + t) rfl (by omega) (by omega) (v := nI (σ 11 t)) (congrArg nI (mv_2 σ (t := t) (by omega))) dL_isSame_248 ?_
                      have b_248 := hB 11 t
                      refine lv_icmp_ge (tgt := 266) hx hb dL_isSame_249 (by decide) (fun c_249 => ?_) (fun c_249 => ?_)
                      · -- ge taken
                        have c_249 := Int32.le_iff_toInt_le.mp c_249
                        rw [nI_toInt (n := q) (by omega)] at c_249
                        rw [nI_toInt (n := σ 11 t) (by omega)] at c_249
                        refine lv_iconst (v := -1) hx hb dL_isSame_266 (by decide +kernel) ?_
                        refine lv_icmp_ne (tgt := 274) hx hb dL_isSame_267 (by decide) (fun c_267 => ?_) (fun c_267 => ?_)
                        · -- ne taken
                          exact absurd (by decide) c_267
                        · -- ne not
                          refine lv_iconst (v := nI (1)) hx hb dL_isSame_270 (by decide +kernel) ?_
                          refine lv_goto (tgt := 275) hx hb dL_isSame_271 (by decide) ?_
                          refine lv_istore (lv' := [(16, .int (nI (1))), (0, .ref (xa 0 0)), (1, .ref (xa 40 0)), (2, .ref (xa 41 0)), (3, .ref (xa 42 0)), (4, .ref (xa 43 0)), (5, .ref (xa 44 0)), (6, .ref (xa 45 0)), (7, .int (nI (z))), (8, .int (nI (t))), (9, .int (nI (u))), (10, .int (nI (i))), (11, .int (nI (a))), (12, .int (nI (y))), (13, .int (nI (q))), (14, .int (nI (v_127))), (15, .int (nI (bb)))]) hx hb dL_isSame_275 hl (by decide) rfl (fun ls hl => ?_)
                          have hl : lv_has ls 20 [(0, .ref (xa 0 0)), (1, .ref (xa 40 0)), (2, .ref (xa 41 0)), (3, .ref (xa 42 0)), (4, .ref (xa 43 0)), (5, .ref (xa 44 0)), (6, .ref (xa 45 0)), (7, .int (nI (z))), (8, .int (nI (t))), (9, .int (nI (u))), (10, .int (nI (i))), (11, .int (nI (a))), (12, .int (nI (y))), (13, .int (nI (q))), (14, .int (nI (v_127))), (15, .int (nI (bb))), (16, .int (nI (1)))] := lv_sub hl [1, 2, 3, 4, 5, 6, 7, 8, 9, 10, 11, 12, 13, 14, 15, 16, 0] rfl
                          refine lv_iload hx hb dL_isSame_277 (lv_at hl 13 rfl) ?_
                          refine lv_aload hx hb dL_isSame_279 (lv_at hl 6 rfl) ?_
                          refine lv_iconst (v := nI (2)) hx hb dL_isSame_281 (by decide +kernel) ?_
                          refine lv_iload hx hb dL_isSame_282 (lv_at hl 8 rfl) ?_
                          refine lv_iadd hx hb dL_isSame_284 ?_
                          rw [nI_add]
                          refine x_ild hx hb hW 45 0 (LA_45 LA_x) (2 + t) rfl (by omega) (by omega) (v := nI (σ 11 t)) (congrArg nI (mv_2 σ (t := t) (by omega))) dL_isSame_285 ?_
                          have b_285 := hB 11 t
                          refine lv_icmp_ge (tgt := 334) hx hb dL_isSame_286 (by decide) (fun c_286 => ?_) (fun c_286 => ?_)
                          · -- ge taken
                            have c_286 := Int32.le_iff_toInt_le.mp c_286
                            rw [nI_toInt (n := q) (by omega)] at c_286
                            rw [nI_toInt (n := σ 11 t) (by omega)] at c_286
                            refine W.widen (k := 12) (n := 72) (Nat.le_of_ble_eq_true rfl) (Nat.le_of_ble_eq_true rfl) ?_
                            exact J334 _ _ _ hW (hl)
                          · -- ge not
                            have c_286 : ¬ ((nI (σ 11 t)).toInt ≤ (nI (q)).toInt) := fun h => c_286 (Int32.le_iff_toInt_le.mpr h)
                            rw [nI_toInt (n := q) (by omega)] at c_286
                            rw [nI_toInt (n := σ 11 t) (by omega)] at c_286
                            exact absurd c_286 (by omega)
                      · -- ge not
                        have c_249 : ¬ ((nI (σ 11 t)).toInt ≤ (nI (q)).toInt) := fun h => c_249 (Int32.le_iff_toInt_le.mpr h)
                        rw [nI_toInt (n := q) (by omega)] at c_249
                        rw [nI_toInt (n := σ 11 t) (by omega)] at c_249
                        exact absurd c_249 (by omega)
    ·
      refine lv_aload hx hb dL_isSame_99 (lv_at hl 4 rfl) ?_
      refine lv_iload hx hb dL_isSame_101 (lv_at hl 8 rfl) ?_
      refine lv_iload hx hb dL_isSame_103 (lv_at hl 15 rfl) ?_
      refine xs_i (As := [.ref (xa 43 0), .int (nI (t)), .int (nI (bb))]) (rest := []) ⟨hx, hb, hml, hown, hts⟩ (c_L_likeness l D sa xa (xGs (LG D σ) D xa σ τ) σ hI LA_x t bb (by omega) (by omega)) (va_cwS 3 hts gL_isSame_L_likeness rfl rfl rfl (by decide +kernel) ⟨Nat.le_of_ble_eq_true rfl, Nat.le_of_ble_eq_true rfl⟩) hW rfl rfl hl.1 (Nat.le_of_ble_eq_true rfl) dL_isSame_105 ⟨Nat.le_of_ble_eq_true rfl, Nat.le_of_ble_eq_true rfl⟩ (fun r_105 xa1 G1 H locs hp hW => ?_)
      obtain ⟨hu, hr_105⟩ := hp
      cases hu
      refine lv_aload hx hb dL_isSame_108 (lv_at hl 4 rfl) ?_
      refine lv_iload hx hb dL_isSame_110 (lv_at hl 8 rfl) ?_
      refine lv_iload hx hb dL_isSame_112 (lv_at hl 14 rfl) ?_
      refine xs_i (As := [.ref (xa 43 0), .int (nI (t)), .int (nI (v_88))]) (rest := [.int (r_105)]) ⟨hx, hb, hml, hown, hts⟩ (c_L_likeness l D sa xa (xGs (LG D σ) D xa σ τ) σ hI LA_x t v_88 (by omega) (by omega)) (va_cwS 3 hts gL_isSame_L_likeness rfl rfl rfl (by decide +kernel) ⟨Nat.le_of_ble_eq_true rfl, Nat.le_of_ble_eq_true rfl⟩) hW rfl rfl hl.1 (Nat.le_of_ble_eq_true rfl) dL_isSame_114 ⟨Nat.le_of_ble_eq_true rfl, Nat.le_of_ble_eq_true rfl⟩ (fun r_114 xa1 G1 H locs hp hW => ?_)
      obtain ⟨hu, hr_114⟩ := hp
      cases hu
      refine lv_icmp_le (tgt := 125) hx hb dL_isSame_117 (by decide) (fun c_117 => ?_) (fun c_117 => ?_)
      · -- le taken
        have c_117 := Int32.le_iff_toInt_le.mp c_117
        refine lv_iload hx hb dL_isSame_125 (lv_at hl 14 rfl) ?_
        exact J127 _ _ (v_88) hW (⟨lst3_a hab hr_105 hr_114 c_117, by omega⟩)
      · -- le not
        have c_117 : ¬ ((r_105).toInt ≤ (r_114).toInt) := fun h => c_117 (Int32.le_iff_toInt_le.mpr h)
        refine lv_iload hx hb dL_isSame_120 (lv_at hl 15 rfl) ?_
        refine lv_goto (tgt := 127) hx hb dL_isSame_122 (by decide) ?_
        exact J127 _ _ (bb) hW (⟨lst3_b hab hr_105 hr_114 c_117, by omega⟩)
  ·
    refine lv_iload hx hb dL_isSame_58 (lv_at hl 8 rfl) ?_
    refine lv_iconst (v := nI (1)) hx hb dL_isSame_60 (by decide +kernel) ?_
    refine lv_iadd hx hb dL_isSame_61 ?_
    rw [nI_add]
    refine lv_iconst (v := nI (3)) hx hb dL_isSame_62 (by decide +kernel) ?_
    refine lv_irem hx hb dL_isSame_63 (nI_ne0 (n := 3) (by omega) (by omega)) ?_
    rw [n_rem (a := t + 1) (d := 3) (by omega) (by omega) (by omega)]
    refine lv_iload hx hb dL_isSame_64 (lv_at hl 8 rfl) ?_
    refine lv_iconst (v := nI (2)) hx hb dL_isSame_66 (by decide +kernel) ?_
    refine lv_iadd hx hb dL_isSame_67 ?_
    rw [nI_add]
    refine lv_iconst (v := nI (3)) hx hb dL_isSame_68 (by decide +kernel) ?_
    refine lv_irem hx hb dL_isSame_69 (nI_ne0 (n := 3) (by omega) (by omega)) ?_
    rw [n_rem (a := t + 2) (d := 3) (by omega) (by omega) (by omega)]
    refine lv_icmp_ge (tgt := 82) hx hb dL_isSame_70 (by decide) (fun c_70 => ?_) (fun c_70 => ?_)
    · -- ge taken
      have c_70 := Int32.le_iff_toInt_le.mp c_70
      rw [nI_toInt (n := (t + 1) % 3) (by omega)] at c_70
      rw [nI_toInt (n := (t + 2) % 3) (by omega)] at c_70
      refine lv_iload hx hb dL_isSame_82 (lv_at hl 8 rfl) ?_
      refine lv_iconst (v := nI (2)) hx hb dL_isSame_84 (by decide +kernel) ?_
      refine lv_iadd hx hb dL_isSame_85 ?_
      rw [nI_add]
      refine lv_iconst (v := nI (3)) hx hb dL_isSame_86 (by decide +kernel) ?_
      refine lv_irem hx hb dL_isSame_87 (nI_ne0 (n := 3) (by omega) (by omega)) ?_
      rw [n_rem (a := t + 2) (d := 3) (by omega) (by omega) (by omega)]
      exact J88 _ _ ((t + 2) % 3) hW (by omega)
    · -- ge not
      have c_70 : ¬ ((nI ((t + 2) % 3)).toInt ≤ (nI ((t + 1) % 3)).toInt) := fun h => c_70 (Int32.le_iff_toInt_le.mpr h)
      rw [nI_toInt (n := (t + 1) % 3) (by omega)] at c_70
      rw [nI_toInt (n := (t + 2) % 3) (by omega)] at c_70
      refine lv_iload hx hb dL_isSame_73 (lv_at hl 8 rfl) ?_
      refine lv_iconst (v := nI (1)) hx hb dL_isSame_75 (by decide +kernel) ?_
      refine lv_iadd hx hb dL_isSame_76 ?_
      rw [nI_add]
      refine lv_iconst (v := nI (3)) hx hb dL_isSame_77 (by decide +kernel) ?_
      refine lv_irem hx hb dL_isSame_78 (nI_ne0 (n := 3) (by omega) (by omega)) ?_
      rw [n_rem (a := t + 1) (d := 3) (by omega) (by omega) (by omega)]
      refine lv_goto (tgt := 88) hx hb dL_isSame_79 (by decide) ?_
      exact J88 _ _ ((t + 1) % 3) hW (by omega)
