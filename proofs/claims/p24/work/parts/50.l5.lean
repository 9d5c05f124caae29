/-! THE LAW: its steps -/
set_option maxHeartbeats 4000000 in
set_option maxRecDepth 100000 in
theorem c_L_isPerson (l : Launch) (hst0 : l.stackTraces = false) (D : xD) (sa : Nat → Nat) (xa : xA) (σ : Sg) (τ : Tg) (hI : LI σ) (hL : LL σ τ) (hT : TE σ τ) (way z : Nat) (hw : way < 2) (hz : z < 2 ^ 31) : xCi l yL_isPerson wsL_isPerson ({ frames := 20, cells := 5, slots := 30, locals := 700 } : Room) D sa xa (xGs (LG D σ) D xa σ τ) [.ref (xa 0 0), .ref (xa 40 0), .ref (xa 41 0), .int (nI (way)), .int (nI (z))] (fun r u => xOp D xa r u) 5 30 := by
  have hg := hI.1
  have hB := hg.1
  have h5 := hI.2.1
  have h12 := hI.2.2.1
  have h7 := hI.2.2.2
  have hs8 := hg.hs8
  have hy0 := hg.2.1.2.2.2.1
  have hy1 := hg.2.1.2.2.2.2
  intro sz
  refine Met.ofW (cc := cL_isPerson) (maxL := 11) (ret := (some .boolean)) (by decide +kernel) rfl ?_
  intro p e s m args below meth c s₁ B hml hv
  obtain ⟨rfl, hsz, hv2⟩ := hv
  subst hsz
  have hx := B.exec
  have hb := B.bytes
  have hr := B.returns
  have hts := atoms_spec (ws := wsL_isPerson) B.pre
  have hown : s.vm.findClass RL = some m.cls := findClass_of_methodNamed B.named
  have hlocks := B.notSynchronized
  have hW := xW.start (s := s) ⟨rfl, hv2⟩
  clear hv2
  generalize xAw xa (xGs (LG D σ) D xa σ τ) s.heap.size = A at hW ⊢
  have hl := lv_entry ([.ref (xa 0 0), .ref (xa 40 0), .ref (xa 41 0), .int (nI (way)), .int (nI (z))]) (n := 11) (Nat.le_of_ble_eq_true rfl)
  rw [lg_entry_eq]
  generalize (lg_sl ([.ref (xa 0 0), .ref (xa 40 0), .ref (xa 41 0), .int (nI (way)), .int (nI (z))]) ++ List.replicate (11 - (lg_sl ([.ref (xa 0 0), .ref (xa 40 0), .ref (xa 41 0), .int (nI (way)), .int (nI (z))])).length) Slot.unset).toArray = ls at hl ⊢
  have hl : lv_has ls 11 [(0, .ref (xa 0 0)), (1, .ref (xa 40 0)), (2, .ref (xa 41 0)), (3, .int (nI (way))), (4, .int (nI (z)))] := hl
  refine lv_iload hx hb dL_isPerson_0 (lv_at hl 4 rfl) ?_
  refine lv_bipush (v := nI (8)) hx hb dL_isPerson_2 (by decide +kernel) ?_
  refine lv_irem hx hb dL_isPerson_4 (nI_ne0 (n := 8) (by omega) (by omega)) ?_
  rw [n_rem (a := z) (d := 8) (by omega) (by omega) (by omega)]
  refine lv_istore (lv' := [(5, .int (nI (z % 8))), (0, .ref (xa 0 0)), (1, .ref (xa 40 0)), (2, .ref (xa 41 0)), (3, .int (nI (way))), (4, .int (nI (z)))]) hx hb dL_isPerson_5 hl (by decide) rfl (fun ls hl => ?_)
  have hl : lv_has ls 11 [(0, .ref (xa 0 0)), (1, .ref (xa 40 0)), (2, .ref (xa 41 0)), (3, .int (nI (way))), (4, .int (nI (z))), (5, .int (nI (z % 8)))] := lv_sub hl [1, 2, 3, 4, 5, 0] rfl
  obtain ⟨i, hi⟩ : ∃ x_, x_ = z % 8 := ⟨_, rfl⟩
  rw [← hi] at hl
  have b_i : i < 8 := by omega
  have h47 := hI.h7 b_i
  have hhv := hI.hv b_i
  refine lv_iload_n hx hb dL_isPerson_7 rfl (lv_at hl 3 rfl) ?_
  refine lv_if_ne (tgt := 37) hx hb dL_isPerson_8 (by decide) (fun c_8 => ?_) (fun c_8 => ?_)
  · -- ne taken
    have c_8 : ¬ (way = 0) := fun h_ => c_8 ((x_eqZ (a := way) (by omega)).mpr h_)
    refine lv_iload hx hb dL_isPerson_37 (lv_at hl 5 rfl) ?_
    refine lv_iconst (v := nI (1)) hx hb dL_isPerson_39 (by decide +kernel) ?_
    refine lv_iadd hx hb dL_isPerson_40 ?_
    rw [nI_add]
    refine lv_iload hx hb dL_isPerson_41 (lv_at hl 4 rfl) ?_
    refine lv_bipush (v := nI (8)) hx hb dL_isPerson_43 (by decide +kernel) ?_
    refine lv_idiv hx hb dL_isPerson_45 (nI_ne0 (n := 8) (by omega) (by omega)) ?_
    rw [pk_div (a := z) (d := 8) (by omega) (by omega) (by omega)]
    refine lv_bipush (v := nI (7)) hx hb dL_isPerson_46 (by decide +kernel) ?_
    refine lv_irem hx hb dL_isPerson_48 (nI_ne0 (n := 7) (by omega) (by omega)) ?_
    rw [n_rem (a := z / 8) (d := 7) (by omega) (by omega) (by omega)]
    refine lv_iadd hx hb dL_isPerson_49 ?_
    rw [nI_add]
    refine lv_bipush (v := nI (8)) hx hb dL_isPerson_50 (by decide +kernel) ?_
    refine lv_irem hx hb dL_isPerson_52 (nI_ne0 (n := 8) (by omega) (by omega)) ?_
    rw [n_rem (a := (i + 1) + ((z / 8) % 7)) (d := 8) (by omega) (by omega) (by omega)]
    refine lv_istore (lv' := [(6, .int (nI (((i + 1) + ((z / 8) % 7)) % 8))), (0, .ref (xa 0 0)), (1, .ref (xa 40 0)), (2, .ref (xa 41 0)), (3, .int (nI (way))), (4, .int (nI (z))), (5, .int (nI (i)))]) hx hb dL_isPerson_53 hl (by decide) rfl (fun ls hl => ?_)
    have hl : lv_has ls 11 [(0, .ref (xa 0 0)), (1, .ref (xa 40 0)), (2, .ref (xa 41 0)), (3, .int (nI (way))), (4, .int (nI (z))), (5, .int (nI (i))), (6, .int (nI (((i + 1) + ((z / 8) % 7)) % 8)))] := lv_sub hl [1, 2, 3, 4, 5, 6, 0] rfl
    obtain ⟨h, hh⟩ : ∃ x_, x_ = ((i + 1) + ((z / 8) % 7)) % 8 := ⟨_, rfl⟩
    rw [← hh] at hl
    have b_h : h < 8 ∧ h ≠ i := by omega
    refine lv_iconst (v := nI (0)) hx hb dL_isPerson_55 (by decide +kernel) ?_
    refine lv_istore (lv' := [(7, .int (nI (0))), (0, .ref (xa 0 0)), (1, .ref (xa 40 0)), (2, .ref (xa 41 0)), (3, .int (nI (way))), (4, .int (nI (z))), (5, .int (nI (i))), (6, .int (nI (h)))]) hx hb dL_isPerson_56 hl (by decide) rfl (fun ls hl => ?_)
    have hl : lv_has ls 11 [(0, .ref (xa 0 0)), (1, .ref (xa 40 0)), (2, .ref (xa 41 0)), (3, .int (nI (way))), (4, .int (nI (z))), (5, .int (nI (i))), (6, .int (nI (h))), (7, .int (nI (0)))] := lv_sub hl [1, 2, 3, 4, 5, 6, 7, 0] rfl
    refine lv_iconst (v := nI (0)) hx hb dL_isPerson_58 (by decide +kernel) ?_
    refine lv_istore (lv' := [(8, .int (nI (0))), (0, .ref (xa 0 0)), (1, .ref (xa 40 0)), (2, .ref (xa 41 0)), (3, .int (nI (way))), (4, .int (nI (z))), (5, .int (nI (i))), (6, .int (nI (h))), (7, .int (nI (0)))]) hx hb dL_isPerson_59 hl (by decide) rfl (fun ls hl => ?_)
    have hl : lv_has ls 11 [(0, .ref (xa 0 0)), (1, .ref (xa 40 0)), (2, .ref (xa 41 0)), (3, .int (nI (way))), (4, .int (nI (z))), (5, .int (nI (i))), (6, .int (nI (h))), (7, .int (nI (0))), (8, .int (nI (0)))] := lv_sub hl [1, 2, 3, 4, 5, 6, 7, 8, 0] rfl
    refine x_loop (X := Nat × Nat) (I := fun n xv H locs ls => n = σ 4 i - xv.2 ∧ xW D sa A s xa (xGs (LG D σ) D xa σ τ) H locs ∧ lv_has ls 11 [(0, .ref (xa 0 0)), (1, .ref (xa 40 0)), (2, .ref (xa 41 0)), (3, .int (nI (way))), (4, .int (nI (z))), (5, .int (nI (i))), (6, .int (nI (h))), (7, .int (nI (xv.1))), (8, .int (nI (xv.2)))] ∧ (Cb (fun j => σ 3 (12 * i + j) = h) xv.1 xv.2) ∧ (xv.2 ≤ σ 4 i)) (hd := 61) ?_ (n := _) (x := (0, 0)) ⟨rfl, hW, hl, Cb_0 _, by (try dsimp only); omega⟩
    rintro n ⟨tl, k⟩ H locs ls ⟨hn, hW, hl, hCb, hk⟩ ih61
    try dsimp only at hn hW hl hCb hk
    have htl := Cb_lt hCb
    refine lv_iload hx hb dL_isPerson_61 (lv_at hl 8 rfl) ?_
    refine lv_i2l (v := lN (k)) hx hb dL_isPerson_63 (nI_l (by omega)) ?_
    refine lv_aload_n hx hb dL_isPerson_64 rfl (lv_at hl 2 rfl) ?_
    refine lv_iload hx hb dL_isPerson_65 (lv_at hl 5 rfl) ?_
    refine x_lld hx hb hW 41 0 (LA_41 LA_x) (i) rfl (by omega) (by omega) (v := lN (hpv σ i)) rfl dL_isPerson_67 ?_
    have b_67 := hI.hv (i := i) (by omega)
    have b7_67 := hI.h7 (i := i) (by omega)
    refine lv_ldc2 (v := lN 15) hx hb hown (hts (.constantLong RL 11 (lN 15)) (by decide +kernel)) dL_isPerson_68 ?_
    refine lv_land hx hb dL_isPerson_71 ?_
    rw [l_mask _ 4 15 (by decide), hI.hn (i := i) (by omega)]
    refine W.lcmp hx hb dL_isPerson_72 ?_
    refine lv_if_ge (tgt := 107) hx hb dL_isPerson_73 (by decide) (fun c_73 => ?_) (fun c_73 => ?_)
    · -- ge taken
      have c_73 := (pk_lLE (a := σ 4 i) (b := k) (by omega) (by omega)).mp ((lg_cmp_ge _ _).mp c_73)
      refine lv_iload hx hb dL_isPerson_107 (lv_at hl 7 rfl) ?_
      refine lv_if_eq (tgt := 114) hx hb dL_isPerson_109 (by decide) (fun c_109 => ?_) (fun c_109 => ?_)
      · -- eq taken
        have c_109 := (x_eqZ (a := tl) (by omega)).mp c_109
        have hno := Cb_f hCb c_109
        have hlk : k = σ 4 i := by omega
        rw [hlk] at hno
        refine lv_iload hx hb dL_isPerson_114 (lv_at hl 6 rfl) ?_
        refine lv_i2l (v := lN (h)) hx hb dL_isPerson_116 (nI_l (by omega)) ?_
        refine lv_lstore (lv' := [(8, .long (lN (h))), (0, .ref (xa 0 0)), (1, .ref (xa 40 0)), (2, .ref (xa 41 0)), (3, .int (nI (way))), (4, .int (nI (z))), (5, .int (nI (i))), (6, .int (nI (h))), (7, .int (nI (tl)))]) hx hb dL_isPerson_117 hl (by decide) rfl (fun ls hl => ?_)
        have hl : lv_has ls 11 [(0, .ref (xa 0 0)), (1, .ref (xa 40 0)), (2, .ref (xa 41 0)), (3, .int (nI (way))), (4, .int (nI (z))), (5, .int (nI (i))), (6, .int (nI (h))), (7, .int (nI (tl))), (8, .long (lN (h)))] := lv_sub hl [1, 2, 3, 4, 5, 6, 7, 8, 0] rfl
        refine lv_aload_n hx hb dL_isPerson_119 rfl (lv_at hl 2 rfl) ?_
        refine lv_iload hx hb dL_isPerson_120 (lv_at hl 5 rfl) ?_
        refine x_lld hx hb hW 41 0 (LA_41 LA_x) (i) rfl (by omega) (by omega) (v := lN (hpv σ i)) rfl dL_isPerson_122 ?_
        have b_122 := hI.hv (i := i) (by omega)
        have b7_122 := hI.h7 (i := i) (by omega)
        refine lv_ldc2 (v := lN 15) hx hb hown (hts (.constantLong RL 11 (lN 15)) (by decide +kernel)) dL_isPerson_123 ?_
        refine lv_land hx hb dL_isPerson_126 ?_
        rw [l_mask _ 4 15 (by decide), hI.hn (i := i) (by omega)]
        refine lv_l2i (v := nI (σ 4 i)) hx hb dL_isPerson_127 (lN_i _) ?_
        refine lv_istore (lv' := [(10, .int (nI (σ 4 i))), (0, .ref (xa 0 0)), (1, .ref (xa 40 0)), (2, .ref (xa 41 0)), (3, .int (nI (way))), (4, .int (nI (z))), (5, .int (nI (i))), (6, .int (nI (h))), (7, .int (nI (tl))), (8, .long (lN (h)))]) hx hb dL_isPerson_128 hl (by decide) rfl (fun ls hl => ?_)
        have hl : lv_has ls 11 [(0, .ref (xa 0 0)), (1, .ref (xa 40 0)), (2, .ref (xa 41 0)), (3, .int (nI (way))), (4, .int (nI (z))), (5, .int (nI (i))), (6, .int (nI (h))), (7, .int (nI (tl))), (8, .long (lN (h))), (10, .int (nI (σ 4 i)))] := lv_sub hl [1, 2, 3, 4, 5, 6, 7, 8, 9, 0] rfl
        refine lv_aload_n hx hb dL_isPerson_130 rfl (lv_at hl 2 rfl) ?_
        refine lv_iload hx hb dL_isPerson_131 (lv_at hl 5 rfl) ?_
        refine lv_aload_n hx hb dL_isPerson_133 rfl (lv_at hl 2 rfl) ?_
        refine lv_iload hx hb dL_isPerson_134 (lv_at hl 5 rfl) ?_
        refine x_lld hx hb hW 41 0 (LA_41 LA_x) (i) rfl (by omega) (by omega) (v := lN (hpv σ i)) rfl dL_isPerson_136 ?_
        have b_136 := hI.hv (i := i) (by omega)
        have b7_136 := hI.h7 (i := i) (by omega)
        refine lv_lconst (v := lN 1) hx hb dL_isPerson_137 (by decide +kernel) ?_
        refine lv_ladd hx hb dL_isPerson_138 ?_
        rw [lN_add]
        refine lv_lload hx hb dL_isPerson_139 (lv_at hl 8 rfl) ?_
        refine lv_iconst (v := nI (4)) hx hb dL_isPerson_141 (by decide +kernel) ?_
        refine lv_iconst (v := nI (3)) hx hb dL_isPerson_142 (by decide +kernel) ?_
        refine lv_iload hx hb dL_isPerson_143 (lv_at hl 9 rfl) ?_
        refine lv_imul hx hb dL_isPerson_145 ?_
        rw [pk_mul]
        refine lv_iadd hx hb dL_isPerson_146 ?_
        rw [nI_add]
        refine lv_lshl (v := lN (h * 2 ^ (4 + 3 * (σ 4 i)))) hx hb dL_isPerson_147 (lN_shl (shl_ok b_h.1 h47) (by omega)) ?_
        refine lv_lor hx hb dL_isPerson_148 ?_
        rw [lN_or]
        refine x_lst hx hb hW 41 0 (LA_41 LA_x) (i) rfl (by omega) (by omega) dL_isPerson_149 fun H locs hW => ?_
        have hW : xW D sa A s xa (xGs (LGf D (pf σ) (vp_updL (hf σ) i (lN (((hpv σ i) + 1) ||| (h * 2 ^ (4 + 3 * (σ 4 i)))))) (wf σ) (tf σ) (cf σ) (mf σ)) D xa σ τ) H locs := hW.eqG (LG_up (by omega) (LG_h _)).symm
        refine lv_aload_n hx hb dL_isPerson_150 rfl (lv_at hl 0 rfl) ?_
        refine lv_iload hx hb dL_isPerson_151 (lv_at hl 5 rfl) ?_
        refine lv_iload hx hb dL_isPerson_153 (lv_at hl 6 rfl) ?_
        refine yg_i (k := 0) (i := 0) (As := [.int (nI (i)), .int (nI (h))]) (rest := []) ⟨hx, hb, hml, hown, hts⟩ (c_X4_heir l hst0 D sa xa (LGf D (pf σ) (vp_updL (hf σ) i (lN (((hpv σ i) + 1) ||| (h * 2 ^ (4 + 3 * (σ 4 i)))))) (wf σ) (tf σ) (cf σ) (mf σ)) σ τ hg hL hT (nI (i)) (nI (h))) (fun E => pxk_no ⟨(pP_of (i := i) (by omega) (by omega)), (pP_of (i := h) (by omega) (by omega))⟩ (by rw [nI_toInt (by omega), nI_toInt (by omega)]; omega) (by rw [xn_nI (by omega), xn_nI (by omega)]; rintro ⟨k_, z1, z2⟩; exact hno k_ z1 z2)) (cwV 2 hts gL_isPerson_X4_heir rfl rfl rfl (by decide +kernel) ⟨Nat.le_of_ble_eq_true rfl, Nat.le_of_ble_eq_true rfl⟩) hW (xg_x (LGf D (pf σ) (vp_updL (hf σ) i (lN (((hpv σ i) + 1) ||| (h * 2 ^ (4 + 3 * (σ 4 i)))))) (wf σ) (tf σ) (cf σ) (mf σ)) D xa σ τ) rfl rfl rfl rfl hl.1 (Nat.le_of_ble_eq_true rfl) dL_isPerson_155 ⟨Nat.le_of_ble_eq_true rfl, Nat.le_of_ble_eq_true rfl⟩ (fun r_155 xa1 G1 H locs hp hW => ?_)
        obtain ⟨hgk, xb1, τ1, hag1, hu, hL1, hT1, hans⟩ := hp
        have hu2 : G1 = _ := congrArg Prod.snd hu
        subst hu2
        have hu1 : xb1 = xa1 := (congrArg Prod.fst hu).symm
        subst hu1
        have hl : lv_has ls 11 [(0, .ref (xb1 0 0)), (1, .ref (xb1 40 0)), (2, .ref (xb1 41 0)), (3, .int (nI (way))), (4, .int (nI (z))), (5, .int (nI (i))), (6, .int (nI (h))), (7, .int (nI (tl))), (8, .long (lN (h))), (10, .int (nI (σ 4 i)))] := by rw [hag1 0 0 (by omega), hag1 40 0 (by omega), hag1 41 0 (by omega)]; exact hl
        have hI1 : LI (t_heir σ (nI (i)) (nI (h)) 0) := LI_heir hI (by rw [xn_nI (by omega)]; omega) hgk
        rw [xn_nI (n := i) (by omega)] at hans
        have e_155 : r_155 = nI (σ 4 i + 1) := Int32.toInt_inj.mp (by rw [hans, nI_toInt (by omega)])
        subst e_155
        show W _ _ _ _ _ _ _ _ _ _ _ _ _ _ _ (F0 _ 158 ls [.int (nI (σ 4 i + 1))])
        refine lv_iload hx hb dL_isPerson_158 (lv_at hl 9 rfl) ?_
        refine lv_iconst (v := nI (1)) hx hb dL_isPerson_160 (by decide +kernel) ?_
        refine lv_iadd hx hb dL_isPerson_161 ?_
        rw [nI_add]
        refine lv_icmp_ne (tgt := 169) hx hb dL_isPerson_162 (by decide) (fun c_162 => ?_) (fun c_162 => ?_)
        · -- ne taken
          exact absurd rfl c_162
        · -- ne not
          refine lv_iconst (v := nI (1)) hx hb dL_isPerson_165 (by decide +kernel) ?_
          refine lv_goto (tgt := 170) hx hb dL_isPerson_166 (by decide) ?_
          have hW : xW D sa A s xb1 (xGs (LG D (t_heir σ (nI (i)) (nI (h)) 0)) D xb1 (t_heir σ (nI (i)) (nI (h)) 0) τ1) H locs := hW.eqG (congrArg (fun g => xGs g D xb1 (t_heir σ (nI (i)) (nI (h)) 0) τ1) (LG_heir (D := D) hI b_i b_h.1)).symm
          exact xe_i hx hb hr rfl hlocks hW ⟨_, hI1, xb1, τ1, hag1, rfl, hL1, hT1, rfl⟩ (Nat.le_of_ble_eq_true rfl) (Nat.le_of_ble_eq_true rfl) dL_isPerson_170
      · -- eq not
        have c_109 : ¬ (tl = 0) := fun h_ => c_109 ((x_eqZ (a := tl) (by omega)).mpr h_)
        refine lv_iconst (v := nI (1)) hx hb dL_isPerson_112 (by decide +kernel) ?_
        exact xe_i hx hb hr rfl hlocks hW ⟨σ, hI, xa, τ, fun _ _ _ => rfl, rfl, hL, hT, rfl⟩ (Nat.le_of_ble_eq_true rfl) (Nat.le_of_ble_eq_true rfl) dL_isPerson_113
    · -- ge not
      have c_73 : ¬ (σ 4 i ≤ k) := fun h_ => c_73 ((lg_cmp_ge _ _).mpr ((pk_lLE (a := σ 4 i) (b := k) (by omega) (by omega)).mpr h_))
      refine lv_iload hx hb dL_isPerson_76 (lv_at hl 7 rfl) ?_
      refine lv_if_ne (tgt := 94) hx hb dL_isPerson_78 (by decide) (fun c_78 => ?_) (fun c_78 => ?_)
      · -- ne taken
        have c_78 : ¬ (tl = 0) := fun h_ => c_78 ((x_eqZ (a := tl) (by omega)).mpr h_)
        refine lv_iconst (v := nI (1)) hx hb dL_isPerson_94 (by decide +kernel) ?_
        refine lv_goto (tgt := 99) hx hb dL_isPerson_95 (by decide) ?_
        refine lv_istore (lv' := [(7, .int (nI (1))), (0, .ref (xa 0 0)), (1, .ref (xa 40 0)), (2, .ref (xa 41 0)), (3, .int (nI (way))), (4, .int (nI (z))), (5, .int (nI (i))), (6, .int (nI (h))), (8, .int (nI (k)))]) hx hb dL_isPerson_99 hl (by decide) rfl (fun ls hl => ?_)
        have hl : lv_has ls 11 [(0, .ref (xa 0 0)), (1, .ref (xa 40 0)), (2, .ref (xa 41 0)), (3, .int (nI (way))), (4, .int (nI (z))), (5, .int (nI (i))), (6, .int (nI (h))), (7, .int (nI (1))), (8, .int (nI (k)))] := lv_sub hl [1, 2, 3, 4, 5, 6, 7, 0, 8] rfl
        refine lv_iinc (v := nI (k + 1)) (lv' := [(8, .int (nI (k + 1))), (0, .ref (xa 0 0)), (1, .ref (xa 40 0)), (2, .ref (xa 41 0)), (3, .int (nI (way))), (4, .int (nI (z))), (5, .int (nI (i))), (6, .int (nI (h))), (7, .int (nI (1)))]) hx hb dL_isPerson_101 hl (k := 8) rfl (x_inc k 1 rfl) (by decide) rfl (fun ls hl => ?_)
        have hl : lv_has ls 11 [(0, .ref (xa 0 0)), (1, .ref (xa 40 0)), (2, .ref (xa 41 0)), (3, .int (nI (way))), (4, .int (nI (z))), (5, .int (nI (i))), (6, .int (nI (h))), (7, .int (nI (1))), (8, .int (nI (k + 1)))] := lv_sub hl [1, 2, 3, 4, 5, 6, 7, 8, 0] rfl
        refine lv_goto (tgt := 61) hx hb dL_isPerson_104 (by decide) ?_
        exact ih61 (σ 4 i - (k + 1)) (1, k + 1) _ _ _ (by omega) ⟨rfl, hW, hl, Cb_old hCb c_78, by (try dsimp only); omega⟩
      · -- ne not
        have c_78 := (x_eqZ (a := tl) (by omega)).mp c_78
        refine lv_aload_n hx hb dL_isPerson_81 rfl (lv_at hl 2 rfl) ?_
        refine lv_iload hx hb dL_isPerson_82 (lv_at hl 5 rfl) ?_
        refine lv_iload hx hb dL_isPerson_84 (lv_at hl 8 rfl) ?_
        refine xs_i (As := [.ref (xa 41 0), .int (nI (i)), .int (nI (k))]) (rest := []) ⟨hx, hb, hml, hown, hts⟩ (c_L_heir l D sa xa (xGs (LG D σ) D xa σ τ) σ hI LA_x i k (by omega) (by omega)) (va_cwS 3 hts gL_isPerson_L_heir rfl rfl rfl (by decide +kernel) ⟨Nat.le_of_ble_eq_true rfl, Nat.le_of_ble_eq_true rfl⟩) hW rfl rfl hl.1 (Nat.le_of_ble_eq_true rfl) dL_isPerson_86 ⟨Nat.le_of_ble_eq_true rfl, Nat.le_of_ble_eq_true rfl⟩ (fun r_86 xa1 G1 H locs hp hW => ?_)
        obtain ⟨hu, hr_86⟩ := hp
        cases hu
        subst hr_86
        have b8_86 := hI.h8 (i := i) (by omega) (k := k) (by omega)
        have b7_86 := hI.h7 (i := σ 3 (12 * i + k)) b8_86
        refine lv_iload hx hb dL_isPerson_89 (lv_at hl 6 rfl) ?_
        refine lv_icmp_ne (tgt := 98) hx hb dL_isPerson_91 (by decide) (fun c_91 => ?_) (fun c_91 => ?_)
        · -- ne taken
          have c_91 : ¬ (σ 3 (12 * i + k) = h) := fun h_ => c_91 ((x_eqN (a := σ 3 (12 * i + k)) (b := h) (by omega) (by omega)).mpr h_)
          refine lv_iconst (v := nI (0)) hx hb dL_isPerson_98 (by decide +kernel) ?_
          refine lv_istore (lv' := [(7, .int (nI (0))), (0, .ref (xa 0 0)), (1, .ref (xa 40 0)), (2, .ref (xa 41 0)), (3, .int (nI (way))), (4, .int (nI (z))), (5, .int (nI (i))), (6, .int (nI (h))), (8, .int (nI (k)))]) hx hb dL_isPerson_99 hl (by decide) rfl (fun ls hl => ?_)
          have hl : lv_has ls 11 [(0, .ref (xa 0 0)), (1, .ref (xa 40 0)), (2, .ref (xa 41 0)), (3, .int (nI (way))), (4, .int (nI (z))), (5, .int (nI (i))), (6, .int (nI (h))), (7, .int (nI (0))), (8, .int (nI (k)))] := lv_sub hl [1, 2, 3, 4, 5, 6, 7, 0, 8] rfl
          refine lv_iinc (v := nI (k + 1)) (lv' := [(8, .int (nI (k + 1))), (0, .ref (xa 0 0)), (1, .ref (xa 40 0)), (2, .ref (xa 41 0)), (3, .int (nI (way))), (4, .int (nI (z))), (5, .int (nI (i))), (6, .int (nI (h))), (7, .int (nI (0)))]) hx hb dL_isPerson_101 hl (k := 8) rfl (x_inc k 1 rfl) (by decide) rfl (fun ls hl => ?_)
          have hl : lv_has ls 11 [(0, .ref (xa 0 0)), (1, .ref (xa 40 0)), (2, .ref (xa 41 0)), (3, .int (nI (way))), (4, .int (nI (z))), (5, .int (nI (i))), (6, .int (nI (h))), (7, .int (nI (0))), (8, .int (nI (k + 1)))] := lv_sub hl [1, 2, 3, 4, 5, 6, 7, 8, 0] rfl
          refine lv_goto (tgt := 61) hx hb dL_isPerson_104 (by decide) ?_
          exact ih61 (σ 4 i - (k + 1)) (0, k + 1) _ _ _ (by omega) ⟨rfl, hW, hl, Cb_no hCb c_78 c_91, by (try dsimp only); omega⟩
        · -- ne not
          have c_91 := (x_eqN (a := σ 3 (12 * i + k)) (b := h) (by omega) (by omega)).mp c_91
          refine lv_iconst (v := nI (1)) hx hb dL_isPerson_94 (by decide +kernel) ?_
          refine lv_goto (tgt := 99) hx hb dL_isPerson_95 (by decide) ?_
          refine lv_istore (lv' := [(7, .int (nI (1))), (0, .ref (xa 0 0)), (1, .ref (xa 40 0)), (2, .ref (xa 41 0)), (3, .int (nI (way))), (4, .int (nI (z))), (5, .int (nI (i))), (6, .int (nI (h))), (8, .int (nI (k)))]) hx hb dL_isPerson_99 hl (by decide) rfl (fun ls hl => ?_)
          have hl : lv_has ls 11 [(0, .ref (xa 0 0)), (1, .ref (xa 40 0)), (2, .ref (xa 41 0)), (3, .int (nI (way))), (4, .int (nI (z))), (5, .int (nI (i))), (6, .int (nI (h))), (7, .int (nI (1))), (8, .int (nI (k)))] := lv_sub hl [1, 2, 3, 4, 5, 6, 7, 0, 8] rfl
          refine lv_iinc (v := nI (k + 1)) (lv' := [(8, .int (nI (k + 1))), (0, .ref (xa 0 0)), (1, .ref (xa 40 0)), (2, .ref (xa 41 0)), (3, .int (nI (way))), (4, .int (nI (z))), (5, .int (nI (i))), (6, .int (nI (h))), (7, .int (nI (1)))]) hx hb dL_isPerson_101 hl (k := 8) rfl (x_inc k 1 rfl) (by decide) rfl (fun ls hl => ?_)
          have hl : lv_has ls 11 [(0, .ref (xa 0 0)), (1, .ref (xa 40 0)), (2, .ref (xa 41 0)), (3, .int (nI (way))), (4, .int (nI (z))), (5, .int (nI (i))), (6, .int (nI (h))), (7, .int (nI (1))), (8, .int (nI (k + 1)))] := lv_sub hl [1, 2, 3, 4, 5, 6, 7, 8, 0] rfl
          refine lv_goto (tgt := 61) hx hb dL_isPerson_104 (by decide) ?_
          exact ih61 (σ 4 i - (k + 1)) (1, k + 1) _ _ _ (by omega) ⟨rfl, hW, hl, Cb_yes (P := (fun j => σ 3 (12 * i + j) = h)) c_91, by (try dsimp only); omega⟩
  · -- ne not
    have c_8 := (x_eqZ (a := way) (by omega)).mp c_8
    refine lv_aload_n hx hb dL_isPerson_11 rfl (lv_at hl 1 rfl) ?_
    refine lv_iload hx hb dL_isPerson_12 (lv_at hl 5 rfl) ?_
    refine x_ild hx hb hW 40 0 (LA_40 LA_x) (i) rfl (by omega) (by omega) (v := nI (σ 1 i + 8 * σ 2 i)) (rfl) dL_isPerson_14 ?_
    have b_14 := LI.pb hI (i := i) (by omega)
    refine lv_bipush (v := nI (8)) hx hb dL_isPerson_15 (by decide +kernel) ?_
    refine lv_icmp_ge (tgt := 35) hx hb dL_isPerson_17 (by decide) (fun c_17 => ?_) (fun c_17 => ?_)
    · -- ge taken
      have c_17 := Int32.le_iff_toInt_le.mp c_17
      rw [nI_toInt (n := σ 1 i + 8 * σ 2 i) (by omega)] at c_17
      rw [nI_toInt (n := 8) (by omega)] at c_17
      refine lv_iconst (v := nI (1)) hx hb dL_isPerson_35 (by decide +kernel) ?_
      exact xe_i hx hb hr rfl hlocks hW ⟨σ, hI, xa, τ, fun _ _ _ => rfl, rfl, hL, hT, rfl⟩ (Nat.le_of_ble_eq_true rfl) (Nat.le_of_ble_eq_true rfl) dL_isPerson_36
    · -- ge not
      have c_17 : ¬ ((nI (8)).toInt ≤ (nI (σ 1 i + 8 * σ 2 i)).toInt) := fun h => c_17 (Int32.le_iff_toInt_le.mpr h)
      rw [nI_toInt (n := σ 1 i + 8 * σ 2 i) (by omega)] at c_17
      rw [nI_toInt (n := 8) (by omega)] at c_17
      refine lv_aload_n hx hb dL_isPerson_20 rfl (lv_at hl 1 rfl) ?_
      refine lv_iload hx hb dL_isPerson_21 (lv_at hl 5 rfl) ?_
      refine lv_dup2_11 hx hb dL_isPerson_23 rfl rfl ?_
      refine x_ild hx hb hW 40 0 (LA_40 LA_x) (i) rfl (by omega) (by omega) (v := nI (σ 1 i + 8 * σ 2 i)) (rfl) dL_isPerson_24 ?_
      have b_24 := LI.pb hI (i := i) (by omega)
      refine lv_bipush (v := nI (8)) hx hb dL_isPerson_25 (by decide +kernel) ?_
      refine lv_iadd hx hb dL_isPerson_27 ?_
      rw [nI_add]
      refine x_ist hx hb hW 40 0 (LA_40 LA_x) (i) rfl (by omega) (by omega) dL_isPerson_28 fun H locs hW => ?_
      have hW : xW D sa A s xa (xGs (LGf D (upd (pf σ) i (nI ((σ 1 i + 8 * σ 2 i) + 8))) (hf σ) (wf σ) (tf σ) (cf σ) (mf σ)) D xa σ τ) H locs := hW.eqG (LG_up (by omega) (LG_p _)).symm
      refine lv_aload_n hx hb dL_isPerson_29 rfl (lv_at hl 0 rfl) ?_
      refine lv_iload hx hb dL_isPerson_30 (lv_at hl 5 rfl) ?_
      refine yg_v (k := 0) (i := 0) (As := [.int (nI (i))]) (rest := []) ⟨hx, hb, hml, hown, hts⟩ (c_X4_die l hst0 D sa xa (LGf D (upd (pf σ) i (nI ((σ 1 i + 8 * σ 2 i) + 8))) (hf σ) (wf σ) (tf σ) (cf σ) (mf σ)) σ τ hg hL hT (nI (i))) (fun E => pxk_no (pP_of (i := i) (by omega) (by omega)) (by rw [xn_nI (by omega)]; omega) trivial) (cwV 1 hts gL_isPerson_X4_die rfl rfl rfl (by decide +kernel) ⟨Nat.le_of_ble_eq_true rfl, Nat.le_of_ble_eq_true rfl⟩) hW (xg_x (LGf D (upd (pf σ) i (nI ((σ 1 i + 8 * σ 2 i) + 8))) (hf σ) (wf σ) (tf σ) (cf σ) (mf σ)) D xa σ τ) rfl rfl rfl rfl hl.1 (Nat.le_of_ble_eq_true rfl) dL_isPerson_32 ⟨Nat.le_of_ble_eq_true rfl, Nat.le_of_ble_eq_true rfl⟩ (fun xa1 G1 H locs hp hW => ?_)
      obtain ⟨hgk, xb1, τ1, hag1, hu, hL1, hT1, hans⟩ := hp
      have hu2 : G1 = _ := congrArg Prod.snd hu
      subst hu2
      have hu1 : xb1 = xa1 := (congrArg Prod.fst hu).symm
      subst hu1
      have hl : lv_has ls 11 [(0, .ref (xb1 0 0)), (1, .ref (xb1 40 0)), (2, .ref (xb1 41 0)), (3, .int (nI (way))), (4, .int (nI (z))), (5, .int (nI (i)))] := by rw [hag1 0 0 (by omega), hag1 40 0 (by omega), hag1 41 0 (by omega)]; exact hl
      have hI1 : LI (t_die σ (nI (i)) 0) := LI_die hI hgk
      show W _ _ _ _ _ _ _ _ _ _ _ _ _ _ _ (F0 _ 35 ls [])
      refine lv_iconst (v := nI (1)) hx hb dL_isPerson_35 (by decide +kernel) ?_
      have hW : xW D sa A s xb1 (xGs (LG D (t_die σ (nI (i)) 0)) D xb1 (t_die σ (nI (i)) 0) τ1) H locs := hW.eqG (congrArg (fun g => xGs g D xb1 (t_die σ (nI (i)) 0) τ1) (LG_die (D := D) b_i (by omega))).symm
      exact xe_i hx hb hr rfl hlocks hW ⟨_, hI1, xb1, τ1, hag1, rfl, hL1, hT1, rfl⟩ (Nat.le_of_ble_eq_true rfl) (Nat.le_of_ble_eq_true rfl) dL_isPerson_36

set_option maxHeartbeats 4000000 in
set_option maxRecDepth 100000 in
theorem c_L_isLaw (l : Launch) (hst0 : l.stackTraces = false) (D : xD) (sa : Nat → Nat) (xa : xA) (σ : Sg) (τ : Tg) (hI : LI σ) (hL : LL σ τ) (hT : TE σ τ) (way z : Nat) (hw : way < 3) (hz : z < 2 ^ 30) : xCi l yL_isLaw wsL_isLaw ({ frames := 20, cells := 5, slots := 30, locals := 700 } : Room) D sa xa (xGs (LG D σ) D xa σ τ) [.ref (xa 0 0), .ref (xa 42 0), .ref (xa 45 0), .int (nI (way)), .int (nI (z))] (fun r u => xOp D xa r u) 5 30 := by
  have hg := hI.1
  have hB := hg.1
  have h5 := hI.2.1
  have h12 := hI.2.2.1
  have h7 := hI.2.2.2
  have hs8 := hg.hs8
  have hy0 := hg.2.1.2.2.2.1
  have hy1 := hg.2.1.2.2.2.2
  intro sz
  refine Met.ofW (cc := cL_isLaw) (maxL := 6) (ret := (some .boolean)) (by decide +kernel) rfl ?_
  intro p e s m args below meth c s₁ B hml hv
  obtain ⟨rfl, hsz, hv2⟩ := hv
  subst hsz
  have hx := B.exec
  have hb := B.bytes
  have hr := B.returns
  have hts := atoms_spec (ws := wsL_isLaw) B.pre
  have hown : s.vm.findClass RL = some m.cls := findClass_of_methodNamed B.named
  have hlocks := B.notSynchronized
  have hW := xW.start (s := s) ⟨rfl, hv2⟩
  clear hv2
  generalize xAw xa (xGs (LG D σ) D xa σ τ) s.heap.size = A at hW ⊢
  have hl := lv_entry ([.ref (xa 0 0), .ref (xa 42 0), .ref (xa 45 0), .int (nI (way)), .int (nI (z))]) (n := 6) (Nat.le_of_ble_eq_true rfl)
  rw [lg_entry_eq]
  generalize (lg_sl ([.ref (xa 0 0), .ref (xa 42 0), .ref (xa 45 0), .int (nI (way)), .int (nI (z))]) ++ List.replicate (6 - (lg_sl ([.ref (xa 0 0), .ref (xa 42 0), .ref (xa 45 0), .int (nI (way)), .int (nI (z))])).length) Slot.unset).toArray = ls at hl ⊢
  have hl : lv_has ls 6 [(0, .ref (xa 0 0)), (1, .ref (xa 42 0)), (2, .ref (xa 45 0)), (3, .int (nI (way))), (4, .int (nI (z)))] := hl
  refine lv_iload_n hx hb dL_isLaw_0 rfl (lv_at hl 3 rfl) ?_
  refine lv_if_ne (tgt := 126) hx hb dL_isLaw_1 (by decide) (fun c_1 => ?_) (fun c_1 => ?_)
  · -- ne taken
    have c_1 : ¬ (way = 0) := fun h_ => c_1 ((x_eqZ (a := way) (by omega)).mpr h_)
    refine lv_iload_n hx hb dL_isLaw_126 rfl (lv_at hl 3 rfl) ?_
    refine lv_iconst (v := nI (1)) hx hb dL_isLaw_127 (by decide +kernel) ?_
    refine lv_icmp_ne (tgt := 199) hx hb dL_isLaw_128 (by decide) (fun c_128 => ?_) (fun c_128 => ?_)
    · -- ne taken
      have c_128 : ¬ (way = 1) := fun h_ => c_128 ((x_eqN (a := way) (b := 1) (by omega) (by omega)).mpr h_)
      refine lv_aload_n hx hb dL_isLaw_199 rfl (lv_at hl 2 rfl) ?_
      refine lv_iconst (v := nI (0)) hx hb dL_isLaw_200 (by decide +kernel) ?_
      refine x_ild hx hb hW 45 0 (LA_45 LA_x) (0) rfl (by omega) (by omega) (v := nI (σ 0 0)) (rfl) dL_isLaw_201 ?_
      have b_201 := hB 0 0
      refine lv_istore (lv' := [(5, .int (nI (σ 0 0))), (0, .ref (xa 0 0)), (1, .ref (xa 42 0)), (2, .ref (xa 45 0)), (3, .int (nI (way))), (4, .int (nI (z)))]) hx hb dL_isLaw_202 hl (by decide) rfl (fun ls hl => ?_)
      have hl : lv_has ls 6 [(0, .ref (xa 0 0)), (1, .ref (xa 42 0)), (2, .ref (xa 45 0)), (3, .int (nI (way))), (4, .int (nI (z))), (5, .int (nI (σ 0 0)))] := lv_sub hl [1, 2, 3, 4, 5, 0] rfl
      refine lv_aload_n hx hb dL_isLaw_204 rfl (lv_at hl 2 rfl) ?_
      refine lv_iconst (v := nI (0)) hx hb dL_isLaw_205 (by decide +kernel) ?_
      refine x_joinN (ls := ls) (D := D) (sa := sa) (A := A) (xa := xa) (G := xGs (LG D σ) D xa σ τ) (P := fun v_ => σ 0 0 ≤ v_ ∧ v_ ≤ 2100) (mpc := 234) (rest := [.int (nI (0)), .ref (xa 45 0)]) (fun H locs v_234 hW h_234 => ?_) (fun J234 => ?_)
      · try dsimp only at h_234
        refine x_ist hx hb hW 45 0 (LA_45 LA_x) (0) rfl (by omega) (by omega) dL_isLaw_234 fun H locs hW => ?_
        have hW : xW D sa A s xa (xGs (LGf D (pf σ) (hf σ) (wf σ) (tf σ) (cf σ) (upd (mf σ) 0 (nI (v_234)))) D xa σ τ) H locs := hW.eqG (LG_up (by omega) (LG_m _)).symm
        refine lv_aload_n hx hb dL_isLaw_235 rfl (lv_at hl 0 rfl) ?_
        refine lv_aload_n hx hb dL_isLaw_236 rfl (lv_at hl 2 rfl) ?_
        refine lv_iconst (v := nI (0)) hx hb dL_isLaw_237 (by decide +kernel) ?_
        refine x_ild hx hb hW 45 0 (LA_45 LA_x) (0) rfl (by omega) (by omega) (v := nI (v_234)) (pk_us) dL_isLaw_238 ?_
        refine yg_i (k := 0) (i := 0) (As := [.int (nI (v_234))]) (rest := []) ⟨hx, hb, hml, hown, hts⟩ (c_X4_now l hst0 D sa xa (LGf D (pf σ) (hf σ) (wf σ) (tf σ) (cf σ) (upd (mf σ) 0 (nI (v_234)))) σ τ hg hL hT (nI (v_234))) (fun E => pxk_no (by rw [nI_toInt (by omega)]; omega) trivial trivial) (cwV 1 hts gL_isLaw_X4_now rfl rfl rfl (by decide +kernel) ⟨Nat.le_of_ble_eq_true rfl, Nat.le_of_ble_eq_true rfl⟩) hW (xg_x (LGf D (pf σ) (hf σ) (wf σ) (tf σ) (cf σ) (upd (mf σ) 0 (nI (v_234)))) D xa σ τ) rfl rfl rfl rfl hl.1 (Nat.le_of_ble_eq_true rfl) dL_isLaw_239 ⟨Nat.le_of_ble_eq_true rfl, Nat.le_of_ble_eq_true rfl⟩ (fun r_239 xa1 G1 H locs hp hW => ?_)
        obtain ⟨hgk, xb1, τ1, hag1, hu, hL1, hT1, hans⟩ := hp
        have hu2 : G1 = _ := congrArg Prod.snd hu
        subst hu2
        have hu1 : xb1 = xa1 := (congrArg Prod.fst hu).symm
        subst hu1
        have hl : lv_has ls 6 [(0, .ref (xb1 0 0)), (1, .ref (xb1 42 0)), (2, .ref (xb1 45 0)), (3, .int (nI (way))), (4, .int (nI (z))), (5, .int (nI (σ 0 0)))] := by rw [hag1 0 0 (by omega), hag1 42 0 (by omega), hag1 45 0 (by omega)]; exact hl
        have hI1 : LI (t_now σ (nI (v_234)) 0) := LI_now hI hgk
        have e_239 : r_239 = nI (σ 0 0) := Int32.toInt_inj.mp (by rw [hans, nI_toInt (by omega)])
        subst e_239
        show W _ _ _ _ _ _ _ _ _ _ _ _ _ _ _ (F0 _ 242 ls [.int (nI (σ 0 0))])
        refine lv_iload hx hb dL_isLaw_242 (lv_at hl 5 rfl) ?_
        refine lv_icmp_ne (tgt := 251) hx hb dL_isLaw_244 (by decide) (fun c_244 => ?_) (fun c_244 => ?_)
        · -- ne taken
          exact absurd rfl c_244
        · -- ne not
          refine lv_iconst (v := nI (1)) hx hb dL_isLaw_247 (by decide +kernel) ?_
          refine lv_goto (tgt := 252) hx hb dL_isLaw_248 (by decide) ?_
          have hW : xW D sa A s xb1 (xGs (LG D (t_now σ (nI (v_234)) 0)) D xb1 (t_now σ (nI (v_234)) 0) τ1) H locs := hW.eqG (congrArg (fun g => xGs g D xb1 (t_now σ (nI (v_234)) 0) τ1) (LG_now (D := D) h_234.2)).symm
          exact xe_i hx hb hr rfl hlocks hW ⟨_, hI1, xb1, τ1, hag1, rfl, hL1, hT1, rfl⟩ (Nat.le_of_ble_eq_true rfl) (Nat.le_of_ble_eq_true rfl) dL_isLaw_252
      ·
        refine lv_iload hx hb dL_isLaw_206 (lv_at hl 5 rfl) ?_
        refine lv_iload hx hb dL_isLaw_208 (lv_at hl 4 rfl) ?_
        refine lv_bipush (v := nI (40)) hx hb dL_isLaw_210 (by decide +kernel) ?_
        refine lv_irem hx hb dL_isLaw_212 (nI_ne0 (n := 40) (by omega) (by omega)) ?_
        rw [n_rem (a := z) (d := 40) (by omega) (by omega) (by omega)]
        refine lv_iadd hx hb dL_isLaw_213 ?_
        rw [nI_add]
        refine lv_sipush (v := nI (2100)) hx hb dL_isLaw_214 (by decide +kernel) ?_
        refine lv_icmp_le (tgt := 226) hx hb dL_isLaw_217 (by decide) (fun c_217 => ?_) (fun c_217 => ?_)
        · -- le taken
          have c_217 := Int32.le_iff_toInt_le.mp c_217
          rw [nI_toInt (n := σ 0 0 + (z % 40)) (by omega)] at c_217
          rw [nI_toInt (n := 2100) (by omega)] at c_217
          refine lv_iload hx hb dL_isLaw_226 (lv_at hl 5 rfl) ?_
          refine lv_iload hx hb dL_isLaw_228 (lv_at hl 4 rfl) ?_
          refine lv_bipush (v := nI (40)) hx hb dL_isLaw_230 (by decide +kernel) ?_
          refine lv_irem hx hb dL_isLaw_232 (nI_ne0 (n := 40) (by omega) (by omega)) ?_
          rw [n_rem (a := z) (d := 40) (by omega) (by omega) (by omega)]
          refine lv_iadd hx hb dL_isLaw_233 ?_
          rw [nI_add]
          exact J234 _ _ (σ 0 0 + (z % 40)) hW (by omega)
        · -- le not
          have c_217 : ¬ ((nI (σ 0 0 + (z % 40))).toInt ≤ (nI (2100)).toInt) := fun h => c_217 (Int32.le_iff_toInt_le.mpr h)
          rw [nI_toInt (n := σ 0 0 + (z % 40)) (by omega)] at c_217
          rw [nI_toInt (n := 2100) (by omega)] at c_217
          refine lv_sipush (v := nI (2100)) hx hb dL_isLaw_220 (by decide +kernel) ?_
          refine lv_goto (tgt := 234) hx hb dL_isLaw_223 (by decide) ?_
          exact J234 _ _ (2100) hW (by omega)
    · -- ne not
      have c_128 := (x_eqN (a := way) (b := 1) (by omega) (by omega)).mp c_128
      refine lv_aload_n hx hb dL_isLaw_131 rfl (lv_at hl 2 rfl) ?_
      refine lv_iconst (v := nI (5)) hx hb dL_isLaw_132 (by decide +kernel) ?_
      refine lv_iload hx hb dL_isLaw_133 (lv_at hl 4 rfl) ?_
      refine lv_iconst (v := nI (5)) hx hb dL_isLaw_135 (by decide +kernel) ?_
      refine lv_irem hx hb dL_isLaw_136 (nI_ne0 (n := 5) (by omega) (by omega)) ?_
      rw [n_rem (a := z) (d := 5) (by omega) (by omega) (by omega)]
      refine lv_iadd hx hb dL_isLaw_137 ?_
      rw [nI_add]
      refine x_ild hx hb hW 45 0 (LA_45 LA_x) (5 + (z % 5)) rfl (by omega) (by omega) (v := nI (σ 8 (z % 5))) ((congrArg nI (mv_5 σ (z % 5)))) dL_isLaw_138 ?_
      have b_138 := hB 8 (z % 5)
      refine lv_istore (lv' := [(5, .int (nI (σ 8 (z % 5)))), (0, .ref (xa 0 0)), (1, .ref (xa 42 0)), (2, .ref (xa 45 0)), (3, .int (nI (way))), (4, .int (nI (z)))]) hx hb dL_isLaw_139 hl (by decide) rfl (fun ls hl => ?_)
      have hl : lv_has ls 6 [(0, .ref (xa 0 0)), (1, .ref (xa 42 0)), (2, .ref (xa 45 0)), (3, .int (nI (way))), (4, .int (nI (z))), (5, .int (nI (σ 8 (z % 5))))] := lv_sub hl [1, 2, 3, 4, 5, 0] rfl
      refine lv_aload_n hx hb dL_isLaw_141 rfl (lv_at hl 2 rfl) ?_
      refine lv_iconst (v := nI (5)) hx hb dL_isLaw_142 (by decide +kernel) ?_
      refine lv_iload hx hb dL_isLaw_143 (lv_at hl 4 rfl) ?_
      refine lv_iconst (v := nI (5)) hx hb dL_isLaw_145 (by decide +kernel) ?_
      refine lv_irem hx hb dL_isLaw_146 (nI_ne0 (n := 5) (by omega) (by omega)) ?_
      rw [n_rem (a := z) (d := 5) (by omega) (by omega) (by omega)]
      refine lv_iadd hx hb dL_isLaw_147 ?_
      rw [nI_add]
      refine x_joinN (ls := ls) (D := D) (sa := sa) (A := A) (xa := xa) (G := xGs (LG D σ) D xa σ τ) (P := fun v_ => v_ ≤ 60) (mpc := 171) (rest := [.int (nI (5 + (z % 5))), .ref (xa 45 0)]) (fun H locs v_171 hW h_171 => ?_) (fun J171 => ?_)
      · try dsimp only at h_171
        refine x_ist hx hb hW 45 0 (LA_45 LA_x) (5 + (z % 5)) rfl (by omega) (by omega) dL_isLaw_171 fun H locs hW => ?_
        have hW : xW D sa A s xa (xGs (LGf D (pf σ) (hf σ) (wf σ) (tf σ) (cf σ) (upd (mf σ) (5 + (z % 5)) (nI (v_171)))) D xa σ τ) H locs := hW.eqG (LG_up (by omega) (LG_m _)).symm
        refine lv_aload_n hx hb dL_isLaw_172 rfl (lv_at hl 0 rfl) ?_
        refine lv_iload hx hb dL_isLaw_173 (lv_at hl 4 rfl) ?_
        refine lv_iconst (v := nI (5)) hx hb dL_isLaw_175 (by decide +kernel) ?_
        refine lv_irem hx hb dL_isLaw_176 (nI_ne0 (n := 5) (by omega) (by omega)) ?_
        rw [n_rem (a := z) (d := 5) (by omega) (by omega) (by omega)]
        refine lv_aload_n hx hb dL_isLaw_177 rfl (lv_at hl 2 rfl) ?_
        refine lv_iconst (v := nI (5)) hx hb dL_isLaw_178 (by decide +kernel) ?_
        refine lv_iload hx hb dL_isLaw_179 (lv_at hl 4 rfl) ?_
        refine lv_iconst (v := nI (5)) hx hb dL_isLaw_181 (by decide +kernel) ?_
        refine lv_irem hx hb dL_isLaw_182 (nI_ne0 (n := 5) (by omega) (by omega)) ?_
        rw [n_rem (a := z) (d := 5) (by omega) (by omega) (by omega)]
        refine lv_iadd hx hb dL_isLaw_183 ?_
        rw [nI_add]
        refine x_ild hx hb hW 45 0 (LA_45 LA_x) (5 + (z % 5)) rfl (by omega) (by omega) (v := nI (v_171)) (pk_us) dL_isLaw_184 ?_
        refine yg_i (k := 0) (i := 0) (As := [.int (nI (z % 5)), .int (nI (v_171))]) (rest := []) ⟨hx, hb, hml, hown, hts⟩ (c_X4_faith l hst0 D sa xa (LGf D (pf σ) (hf σ) (wf σ) (tf σ) (cf σ) (upd (mf σ) (5 + (z % 5)) (nI (v_171)))) σ τ hg hL hT (nI (z % 5)) (nI (v_171))) (fun E => pxk_no (pL_of (by omega)) (rg_of (n := v_171) (by omega) (by omega) (by omega)) trivial) (cwV 2 hts gL_isLaw_X4_faith rfl rfl rfl (by decide +kernel) ⟨Nat.le_of_ble_eq_true rfl, Nat.le_of_ble_eq_true rfl⟩) hW (xg_x (LGf D (pf σ) (hf σ) (wf σ) (tf σ) (cf σ) (upd (mf σ) (5 + (z % 5)) (nI (v_171)))) D xa σ τ) rfl rfl rfl rfl hl.1 (Nat.le_of_ble_eq_true rfl) dL_isLaw_185 ⟨Nat.le_of_ble_eq_true rfl, Nat.le_of_ble_eq_true rfl⟩ (fun r_185 xa1 G1 H locs hp hW => ?_)
        obtain ⟨hgk, xb1, τ1, hag1, hu, hL1, hT1, hans⟩ := hp
        have hu2 : G1 = _ := congrArg Prod.snd hu
        subst hu2
        have hu1 : xb1 = xa1 := (congrArg Prod.fst hu).symm
        subst hu1
        have hl : lv_has ls 6 [(0, .ref (xb1 0 0)), (1, .ref (xb1 42 0)), (2, .ref (xb1 45 0)), (3, .int (nI (way))), (4, .int (nI (z))), (5, .int (nI (σ 8 (z % 5))))] := by rw [hag1 0 0 (by omega), hag1 42 0 (by omega), hag1 45 0 (by omega)]; exact hl
        have hI1 : LI (t_faith σ (nI (z % 5)) (nI (v_171)) 0) := LI_faith hI hgk
        rw [xn_nI (n := z % 5) (by omega)] at hans
        have e_185 : r_185 = nI (σ 8 (z % 5)) := Int32.toInt_inj.mp (by rw [hans, nI_toInt (by omega)])
        subst e_185
        show W _ _ _ _ _ _ _ _ _ _ _ _ _ _ _ (F0 _ 188 ls [.int (nI (σ 8 (z % 5)))])
        refine lv_iload hx hb dL_isLaw_188 (lv_at hl 5 rfl) ?_
        refine lv_icmp_ne (tgt := 197) hx hb dL_isLaw_190 (by decide) (fun c_190 => ?_) (fun c_190 => ?_)
        · -- ne taken
          exact absurd rfl c_190
        · -- ne not
          refine lv_iconst (v := nI (1)) hx hb dL_isLaw_193 (by decide +kernel) ?_
          refine lv_goto (tgt := 198) hx hb dL_isLaw_194 (by decide) ?_
          have hW : xW D sa A s xb1 (xGs (LG D (t_faith σ (nI (z % 5)) (nI (v_171)) 0)) D xb1 (t_faith σ (nI (z % 5)) (nI (v_171)) 0) τ1) H locs := hW.eqG (congrArg (fun g => xGs g D xb1 (t_faith σ (nI (z % 5)) (nI (v_171)) 0) τ1) (LG_faith (D := D) (by omega) h_171)).symm
          exact xe_i hx hb hr rfl hlocks hW ⟨_, hI1, xb1, τ1, hag1, rfl, hL1, hT1, rfl⟩ (Nat.le_of_ble_eq_true rfl) (Nat.le_of_ble_eq_true rfl) dL_isLaw_198
      ·
        refine lv_iload hx hb dL_isLaw_148 (lv_at hl 4 rfl) ?_
        refine lv_iconst (v := nI (5)) hx hb dL_isLaw_150 (by decide +kernel) ?_
        refine lv_idiv hx hb dL_isLaw_151 (nI_ne0 (n := 5) (by omega) (by omega)) ?_
        rw [pk_div (a := z) (d := 5) (by omega) (by omega) (by omega)]
        refine lv_iconst (v := nI (4)) hx hb dL_isLaw_152 (by decide +kernel) ?_
        refine lv_irem hx hb dL_isLaw_153 (nI_ne0 (n := 4) (by omega) (by omega)) ?_
        rw [n_rem (a := z / 5) (d := 4) (by omega) (by omega) (by omega)]
        refine lv_if_ne (tgt := 161) hx hb dL_isLaw_154 (by decide) (fun c_154 => ?_) (fun c_154 => ?_)
        · -- ne taken
          have c_154 : ¬ ((z / 5) % 4 = 0) := fun h_ => c_154 ((x_eqZ (a := (z / 5) % 4) (by omega)).mpr h_)
          refine lv_iconst (v := nI (1)) hx hb dL_isLaw_161 (by decide +kernel) ?_
          refine lv_iload hx hb dL_isLaw_162 (lv_at hl 4 rfl) ?_
          refine lv_bipush (v := nI (20)) hx hb dL_isLaw_164 (by decide +kernel) ?_
          refine lv_idiv hx hb dL_isLaw_166 (nI_ne0 (n := 20) (by omega) (by omega)) ?_
          rw [pk_div (a := z) (d := 20) (by omega) (by omega) (by omega)]
          refine lv_bipush (v := nI (60)) hx hb dL_isLaw_167 (by decide +kernel) ?_
          refine lv_irem hx hb dL_isLaw_169 (nI_ne0 (n := 60) (by omega) (by omega)) ?_
          rw [n_rem (a := z / 20) (d := 60) (by omega) (by omega) (by omega)]
          refine lv_iadd hx hb dL_isLaw_170 ?_
          rw [nI_add]
          exact J171 _ _ (1 + ((z / 20) % 60)) hW (by omega)
        · -- ne not
          have c_154 := (x_eqZ (a := (z / 5) % 4) (by omega)).mp c_154
          refine lv_iconst (v := nI (0)) hx hb dL_isLaw_157 (by decide +kernel) ?_
          refine lv_goto (tgt := 171) hx hb dL_isLaw_158 (by decide) ?_
          exact J171 _ _ (0) hW (by omega)
  · -- ne not
    have c_1 := (x_eqZ (a := way) (by omega)).mp c_1
    refine lv_aload_n hx hb dL_isLaw_4 rfl (lv_at hl 2 rfl) ?_
    refine lv_iconst (v := nI (1)) hx hb dL_isLaw_5 (by decide +kernel) ?_
    refine x_ild hx hb hW 45 0 (LA_45 LA_x) (1) rfl (by omega) (by omega) (v := nI (σ 7 0)) (rfl) dL_isLaw_6 ?_
    have b_6 := hB 7 0
    refine lv_bipush (v := nI (8)) hx hb dL_isLaw_7 (by decide +kernel) ?_
    refine lv_icmp_ne (tgt := 14) hx hb dL_isLaw_9 (by decide) (fun c_9 => ?_) (fun c_9 => ?_)
    · -- ne taken
      have c_9 : ¬ (σ 7 0 = 8) := fun h_ => c_9 ((x_eqN (a := σ 7 0) (b := 8) (by omega) (by omega)).mpr h_)
      refine lv_iconst (v := nI (4)) hx hb dL_isLaw_14 (by decide +kernel) ?_
      refine lv_aload_n hx hb dL_isLaw_15 rfl (lv_at hl 2 rfl) ?_
      refine lv_iconst (v := nI (1)) hx hb dL_isLaw_16 (by decide +kernel) ?_
      refine x_ild hx hb hW 45 0 (LA_45 LA_x) (1) rfl (by omega) (by omega) (v := nI (σ 7 0)) (rfl) dL_isLaw_17 ?_
      have b_17 := hB 7 0
      refine lv_imul hx hb dL_isLaw_18 ?_
      rw [pk_mul]
      refine lv_istore (lv' := [(5, .int (nI (4 * (σ 7 0)))), (0, .ref (xa 0 0)), (1, .ref (xa 42 0)), (2, .ref (xa 45 0)), (3, .int (nI (way))), (4, .int (nI (z)))]) hx hb dL_isLaw_19 hl (by decide) rfl (fun ls hl => ?_)
      have hl : lv_has ls 6 [(0, .ref (xa 0 0)), (1, .ref (xa 42 0)), (2, .ref (xa 45 0)), (3, .int (nI (way))), (4, .int (nI (z))), (5, .int (nI (4 * (σ 7 0))))] := lv_sub hl [1, 2, 3, 4, 5, 0] rfl
      refine lv_aload_n hx hb dL_isLaw_21 rfl (lv_at hl 1 rfl) ?_
      refine lv_iload hx hb dL_isLaw_22 (lv_at hl 5 rfl) ?_
      refine lv_iload hx hb dL_isLaw_24 (lv_at hl 4 rfl) ?_
      refine lv_iconst (v := nI (4)) hx hb dL_isLaw_26 (by decide +kernel) ?_
      refine lv_irem hx hb dL_isLaw_27 (nI_ne0 (n := 4) (by omega) (by omega)) ?_
      rw [n_rem (a := z) (d := 4) (by omega) (by omega) (by omega)]
      refine x_ist hx hb hW 42 0 (LA_42 LA_x) (4 * (σ 7 0)) rfl (by omega) (by omega) dL_isLaw_28 fun H locs hW => ?_
      have hW : xW D sa A s xa (xGs (LGf D (pf σ) (hf σ) (upd (wf σ) (4 * (σ 7 0)) (nI (z % 4))) (tf σ) (cf σ) (mf σ)) D xa σ τ) H locs := hW.eqG (LG_up (by omega) (LG_w _)).symm
      refine lv_aload_n hx hb dL_isLaw_29 rfl (lv_at hl 1 rfl) ?_
      refine lv_iload hx hb dL_isLaw_30 (lv_at hl 5 rfl) ?_
      refine lv_iconst (v := nI (1)) hx hb dL_isLaw_32 (by decide +kernel) ?_
      refine lv_iadd hx hb dL_isLaw_33 ?_
      rw [nI_add]
      refine lv_iload hx hb dL_isLaw_34 (lv_at hl 4 rfl) ?_
      refine lv_iconst (v := nI (4)) hx hb dL_isLaw_36 (by decide +kernel) ?_
      refine lv_idiv hx hb dL_isLaw_37 (nI_ne0 (n := 4) (by omega) (by omega)) ?_
      rw [pk_div (a := z) (d := 4) (by omega) (by omega) (by omega)]
      refine lv_iconst (v := nI (5)) hx hb dL_isLaw_38 (by decide +kernel) ?_
      refine lv_irem hx hb dL_isLaw_39 (nI_ne0 (n := 5) (by omega) (by omega)) ?_
      rw [n_rem (a := z / 4) (d := 5) (by omega) (by omega) (by omega)]
      refine x_ist hx hb hW 42 0 (LA_42 LA_x) (4 * (σ 7 0) + 1) rfl (by omega) (by omega) dL_isLaw_40 fun H locs hW => ?_
      have hW : xW D sa A s xa (xGs (LGf D (pf σ) (hf σ) (upd (upd (wf σ) (4 * (σ 7 0)) (nI (z % 4))) (4 * (σ 7 0) + 1) (nI ((z / 4) % 5))) (tf σ) (cf σ) (mf σ)) D xa σ τ) H locs := hW.eqG (LG_up (by omega) (LG_w _)).symm
      refine lv_aload_n hx hb dL_isLaw_41 rfl (lv_at hl 1 rfl) ?_
      refine lv_iload hx hb dL_isLaw_42 (lv_at hl 5 rfl) ?_
      refine lv_iconst (v := nI (2)) hx hb dL_isLaw_44 (by decide +kernel) ?_
      refine lv_iadd hx hb dL_isLaw_45 ?_
      rw [nI_add]
      refine lv_sipush (v := nI (1900)) hx hb dL_isLaw_46 (by decide +kernel) ?_
      refine lv_iload hx hb dL_isLaw_49 (lv_at hl 4 rfl) ?_
      refine lv_bipush (v := nI (20)) hx hb dL_isLaw_51 (by decide +kernel) ?_
      refine lv_idiv hx hb dL_isLaw_53 (nI_ne0 (n := 20) (by omega) (by omega)) ?_
      rw [pk_div (a := z) (d := 20) (by omega) (by omega) (by omega)]
      refine lv_bipush (v := nI (120)) hx hb dL_isLaw_54 (by decide +kernel) ?_
      refine lv_irem hx hb dL_isLaw_56 (nI_ne0 (n := 120) (by omega) (by omega)) ?_
      rw [n_rem (a := z / 20) (d := 120) (by omega) (by omega) (by omega)]
      refine lv_iadd hx hb dL_isLaw_57 ?_
      rw [nI_add]
      refine x_ist hx hb hW 42 0 (LA_42 LA_x) (4 * (σ 7 0) + 2) rfl (by omega) (by omega) dL_isLaw_58 fun H locs hW => ?_
      have hW : xW D sa A s xa (xGs (LGf D (pf σ) (hf σ) (upd (upd (upd (wf σ) (4 * (σ 7 0)) (nI (z % 4))) (4 * (σ 7 0) + 1) (nI ((z / 4) % 5))) (4 * (σ 7 0) + 2) (nI (1900 + ((z / 20) % 120)))) (tf σ) (cf σ) (mf σ)) D xa σ τ) H locs := hW.eqG (LG_up (by omega) (LG_w _)).symm
      refine lv_aload_n hx hb dL_isLaw_59 rfl (lv_at hl 1 rfl) ?_
      refine lv_iload hx hb dL_isLaw_60 (lv_at hl 5 rfl) ?_
      refine lv_iconst (v := nI (3)) hx hb dL_isLaw_62 (by decide +kernel) ?_
      refine lv_iadd hx hb dL_isLaw_63 ?_
      rw [nI_add]
      refine lv_aload_n hx hb dL_isLaw_64 rfl (lv_at hl 1 rfl) ?_
      refine lv_iload hx hb dL_isLaw_65 (lv_at hl 5 rfl) ?_
      refine lv_iconst (v := nI (2)) hx hb dL_isLaw_67 (by decide +kernel) ?_
      refine lv_iadd hx hb dL_isLaw_68 ?_
      rw [nI_add]
      refine x_ild hx hb hW 42 0 (LA_42 LA_x) (4 * (σ 7 0) + 2) rfl (by omega) (by omega) (v := nI (1900 + ((z / 20) % 120))) (pk_us) dL_isLaw_69 ?_
      refine lv_iload hx hb dL_isLaw_70 (lv_at hl 4 rfl) ?_
      refine lv_sipush (v := nI (2400)) hx hb dL_isLaw_72 (by decide +kernel) ?_
      refine lv_idiv hx hb dL_isLaw_75 (nI_ne0 (n := 2400) (by omega) (by omega)) ?_
      rw [pk_div (a := z) (d := 2400) (by omega) (by omega) (by omega)]
      refine lv_bipush (v := nI (40)) hx hb dL_isLaw_76 (by decide +kernel) ?_
      refine lv_irem hx hb dL_isLaw_78 (nI_ne0 (n := 40) (by omega) (by omega)) ?_
      rw [n_rem (a := z / 2400) (d := 40) (by omega) (by omega) (by omega)]
      refine lv_iadd hx hb dL_isLaw_79 ?_
      rw [nI_add]
      refine x_ist hx hb hW 42 0 (LA_42 LA_x) (4 * (σ 7 0) + 3) rfl (by omega) (by omega) dL_isLaw_80 fun H locs hW => ?_
      have hW : xW D sa A s xa (xGs (LGf D (pf σ) (hf σ) (upd (upd (upd (upd (wf σ) (4 * (σ 7 0)) (nI (z % 4))) (4 * (σ 7 0) + 1) (nI ((z / 4) % 5))) (4 * (σ 7 0) + 2) (nI (1900 + ((z / 20) % 120)))) (4 * (σ 7 0) + 3) (nI ((1900 + ((z / 20) % 120)) + ((z / 2400) % 40)))) (tf σ) (cf σ) (mf σ)) D xa σ τ) H locs := hW.eqG (LG_up (by omega) (LG_w _)).symm
      refine lv_aload_n hx hb dL_isLaw_81 rfl (lv_at hl 2 rfl) ?_
      refine lv_iconst (v := nI (1)) hx hb dL_isLaw_82 (by decide +kernel) ?_
      refine lv_dup2_11 hx hb dL_isLaw_83 rfl rfl ?_
      refine x_ild hx hb hW 45 0 (LA_45 LA_x) (1) rfl (by omega) (by omega) (v := nI (σ 7 0)) (rfl) dL_isLaw_84 ?_
      have b_84 := hB 7 0
      refine lv_iconst (v := nI (1)) hx hb dL_isLaw_85 (by decide +kernel) ?_
      refine lv_iadd hx hb dL_isLaw_86 ?_
      rw [nI_add]
      refine x_ist hx hb hW 45 0 (LA_45 LA_x) (1) rfl (by omega) (by omega) dL_isLaw_87 fun H locs hW => ?_
      have hW : xW D sa A s xa (xGs (LGf D (pf σ) (hf σ) (upd (upd (upd (upd (wf σ) (4 * (σ 7 0)) (nI (z % 4))) (4 * (σ 7 0) + 1) (nI ((z / 4) % 5))) (4 * (σ 7 0) + 2) (nI (1900 + ((z / 20) % 120)))) (4 * (σ 7 0) + 3) (nI ((1900 + ((z / 20) % 120)) + ((z / 2400) % 40)))) (tf σ) (cf σ) (upd (mf σ) 1 (nI (σ 7 0 + 1)))) D xa σ τ) H locs := hW.eqG (LG_up (by omega) (LG_m _)).symm
      refine lv_aload_n hx hb dL_isLaw_88 rfl (lv_at hl 0 rfl) ?_
      refine lv_aload_n hx hb dL_isLaw_89 rfl (lv_at hl 1 rfl) ?_
      refine lv_iload hx hb dL_isLaw_90 (lv_at hl 5 rfl) ?_
      refine x_ild hx hb hW 42 0 (LA_42 LA_x) (4 * (σ 7 0)) rfl (by omega) (by omega) (v := nI (z % 4)) ((pk_un (by omega)).trans ((pk_un (by omega)).trans ((pk_un (by omega)).trans (pk_us)))) dL_isLaw_92 ?_
      refine lv_aload_n hx hb dL_isLaw_93 rfl (lv_at hl 1 rfl) ?_
      refine lv_iload hx hb dL_isLaw_94 (lv_at hl 5 rfl) ?_
      refine lv_iconst (v := nI (1)) hx hb dL_isLaw_96 (by decide +kernel) ?_
      refine lv_iadd hx hb dL_isLaw_97 ?_
      rw [nI_add]
      refine x_ild hx hb hW 42 0 (LA_42 LA_x) (4 * (σ 7 0) + 1) rfl (by omega) (by omega) (v := nI ((z / 4) % 5)) ((pk_un (by omega)).trans ((pk_un (by omega)).trans (pk_us))) dL_isLaw_98 ?_
      refine lv_aload_n hx hb dL_isLaw_99 rfl (lv_at hl 1 rfl) ?_
      refine lv_iload hx hb dL_isLaw_100 (lv_at hl 5 rfl) ?_
      refine lv_iconst (v := nI (2)) hx hb dL_isLaw_102 (by decide +kernel) ?_
      refine lv_iadd hx hb dL_isLaw_103 ?_
      rw [nI_add]
      refine x_ild hx hb hW 42 0 (LA_42 LA_x) (4 * (σ 7 0) + 2) rfl (by omega) (by omega) (v := nI (1900 + ((z / 20) % 120))) ((pk_un (by omega)).trans (pk_us)) dL_isLaw_104 ?_
      refine lv_aload_n hx hb dL_isLaw_105 rfl (lv_at hl 1 rfl) ?_
      refine lv_iload hx hb dL_isLaw_106 (lv_at hl 5 rfl) ?_
      refine lv_iconst (v := nI (3)) hx hb dL_isLaw_108 (by decide +kernel) ?_
      refine lv_iadd hx hb dL_isLaw_109 ?_
      rw [nI_add]
      refine x_ild hx hb hW 42 0 (LA_42 LA_x) (4 * (σ 7 0) + 3) rfl (by omega) (by omega) (v := nI ((1900 + ((z / 20) % 120)) + ((z / 2400) % 40))) (pk_us) dL_isLaw_110 ?_
      refine yg_i (k := 0) (i := 0) (As := [.int (nI (z % 4)), .int (nI ((z / 4) % 5)), .int (nI (1900 + ((z / 20) % 120))), .int (nI ((1900 + ((z / 20) % 120)) + ((z / 2400) % 40)))]) (rest := []) ⟨hx, hb, hml, hown, hts⟩ (c_X4_persecution l hst0 D sa xa (LGf D (pf σ) (hf σ) (upd (upd (upd (upd (wf σ) (4 * (σ 7 0)) (nI (z % 4))) (4 * (σ 7 0) + 1) (nI ((z / 4) % 5))) (4 * (σ 7 0) + 2) (nI (1900 + ((z / 20) % 120)))) (4 * (σ 7 0) + 3) (nI ((1900 + ((z / 20) % 120)) + ((z / 2400) % 40)))) (tf σ) (cf σ) (upd (mf σ) 1 (nI (σ 7 0 + 1)))) σ τ hg hL hT (nI (z % 4)) (nI ((z / 4) % 5)) (nI (1900 + ((z / 20) % 120))) (nI ((1900 + ((z / 20) % 120)) + ((z / 2400) % 40)))) (fun E => pxk_no ⟨rg_of (n := z % 4) (by omega) (by omega) (by omega), pL_of (by omega)⟩ ⟨rg_of (n := 1900 + ((z / 20) % 120)) (by omega) (by omega) (by omega), by rw [nI_toInt (by omega), nI_toInt (by omega)]; omega, by rw [nI_toInt (by omega)]; omega⟩ (by omega)) (cwV 4 hts gL_isLaw_X4_persecution rfl rfl rfl (by decide +kernel) ⟨Nat.le_of_ble_eq_true rfl, Nat.le_of_ble_eq_true rfl⟩) hW (xg_x (LGf D (pf σ) (hf σ) (upd (upd (upd (upd (wf σ) (4 * (σ 7 0)) (nI (z % 4))) (4 * (σ 7 0) + 1) (nI ((z / 4) % 5))) (4 * (σ 7 0) + 2) (nI (1900 + ((z / 20) % 120)))) (4 * (σ 7 0) + 3) (nI ((1900 + ((z / 20) % 120)) + ((z / 2400) % 40)))) (tf σ) (cf σ) (upd (mf σ) 1 (nI (σ 7 0 + 1)))) D xa σ τ) rfl rfl rfl rfl hl.1 (Nat.le_of_ble_eq_true rfl) dL_isLaw_111 ⟨Nat.le_of_ble_eq_true rfl, Nat.le_of_ble_eq_true rfl⟩ (fun r_111 xa1 G1 H locs hp hW => ?_)
      obtain ⟨hgk, xb1, τ1, hag1, hu, hL1, hT1, hans⟩ := hp
      have hu2 : G1 = _ := congrArg Prod.snd hu
      subst hu2
      have hu1 : xb1 = xa1 := (congrArg Prod.fst hu).symm
      subst hu1
      have hl : lv_has ls 6 [(0, .ref (xb1 0 0)), (1, .ref (xb1 42 0)), (2, .ref (xb1 45 0)), (3, .int (nI (way))), (4, .int (nI (z))), (5, .int (nI (4 * (σ 7 0))))] := by rw [hag1 0 0 (by omega), hag1 42 0 (by omega), hag1 45 0 (by omega)]; exact hl
      have hI1 : LI (t_persecution σ (nI (z % 4)) (nI ((z / 4) % 5)) (nI (1900 + ((z / 20) % 120))) (nI ((1900 + ((z / 20) % 120)) + ((z / 2400) % 40))) 0) := LI_pers hI (by omega) hgk
      have e_111 : r_111 = nI (σ 7 0 + 1) := Int32.toInt_inj.mp (by rw [hans, nI_toInt (by omega)])
      subst e_111
      show W _ _ _ _ _ _ _ _ _ _ _ _ _ _ _ (F0 _ 114 ls [.int (nI (σ 7 0 + 1))])
      refine lv_aload_n hx hb dL_isLaw_114 rfl (lv_at hl 2 rfl) ?_
      refine lv_iconst (v := nI (1)) hx hb dL_isLaw_115 (by decide +kernel) ?_
      refine x_ild hx hb hW 45 0 (LA_45 LA_x) (1) rfl (by omega) (by omega) (v := nI (σ 7 0 + 1)) (pk_us) dL_isLaw_116 ?_
      refine lv_icmp_ne (tgt := 124) hx hb dL_isLaw_117 (by decide) (fun c_117 => ?_) (fun c_117 => ?_)
      · -- ne taken
        exact absurd rfl c_117
      · -- ne not
        refine lv_iconst (v := nI (1)) hx hb dL_isLaw_120 (by decide +kernel) ?_
        refine lv_goto (tgt := 125) hx hb dL_isLaw_121 (by decide) ?_
        have hW : xW D sa A s xb1 (xGs (LG D (t_persecution σ (nI (z % 4)) (nI ((z / 4) % 5)) (nI (1900 + ((z / 20) % 120))) (nI ((1900 + ((z / 20) % 120)) + ((z / 2400) % 40))) 0)) D xb1 (t_persecution σ (nI (z % 4)) (nI ((z / 4) % 5)) (nI (1900 + ((z / 20) % 120))) (nI ((1900 + ((z / 20) % 120)) + ((z / 2400) % 40))) 0) τ1) H locs := hW.eqG (congrArg (fun g => xGs g D xb1 (t_persecution σ (nI (z % 4)) (nI ((z / 4) % 5)) (nI (1900 + ((z / 20) % 120))) (nI ((1900 + ((z / 20) % 120)) + ((z / 2400) % 40))) 0) τ1) (LG_pers (D := D) (by omega) (by omega) (by omega) (by omega))).symm
        exact xe_i hx hb hr rfl hlocks hW ⟨_, hI1, xb1, τ1, hag1, rfl, hL1, hT1, rfl⟩ (Nat.le_of_ble_eq_true rfl) (Nat.le_of_ble_eq_true rfl) dL_isLaw_125
    · -- ne not
      have c_9 := (x_eqN (a := σ 7 0) (b := 8) (by omega) (by omega)).mp c_9
      refine lv_iconst (v := nI (1)) hx hb dL_isLaw_12 (by decide +kernel) ?_
      exact xe_i hx hb hr rfl hlocks hW ⟨σ, hI, xa, τ, fun _ _ _ => rfl, rfl, hL, hT, rfl⟩ (Nat.le_of_ble_eq_true rfl) (Nat.le_of_ble_eq_true rfl) dL_isLaw_13

set_option maxHeartbeats 4000000 in
set_option maxRecDepth 100000 in
theorem c_L_isStation (l : Launch) (hst0 : l.stackTraces = false) (D : xD) (sa : Nat → Nat) (xa : xA) (σ : Sg) (τ : Tg) (hI : LI σ) (hL : LL σ τ) (hT : TE σ τ) (z : Nat) (hz : z < 2 ^ 30) : xCi l yL_isStation wsL_isStation ({ frames := 22, cells := 6, slots := 39, locals := 800 } : Room) D sa xa (xGs (LG D σ) D xa σ τ) [.ref (xa 0 0), .ref (xa 44 0), .ref (xa 45 0), .int (nI (z))] (fun r u => xOp D xa r u) 6 39 := by
  have hg := hI.1
  have hB := hg.1
  have h5 := hI.2.1
  have h12 := hI.2.2.1
  have h7 := hI.2.2.2
  have hs8 := hg.hs8
  have hy0 := hg.2.1.2.2.2.1
  have hy1 := hg.2.1.2.2.2.2
  intro sz
  refine Met.ofW (cc := cL_isStation) (maxL := 10) (ret := (some .boolean)) (by decide +kernel) rfl ?_
  intro p e s m args below meth c s₁ B hml hv
  obtain ⟨rfl, hsz, hv2⟩ := hv
  subst hsz
  have hx := B.exec
  have hb := B.bytes
  have hr := B.returns
  have hts := atoms_spec (ws := wsL_isStation) B.pre
  have hown : s.vm.findClass RL = some m.cls := findClass_of_methodNamed B.named
  have hlocks := B.notSynchronized
  have hW := xW.start (s := s) ⟨rfl, hv2⟩
  clear hv2
  generalize xAw xa (xGs (LG D σ) D xa σ τ) s.heap.size = A at hW ⊢
  have hl := lv_entry ([.ref (xa 0 0), .ref (xa 44 0), .ref (xa 45 0), .int (nI (z))]) (n := 10) (Nat.le_of_ble_eq_true rfl)
  rw [lg_entry_eq]
  generalize (lg_sl ([.ref (xa 0 0), .ref (xa 44 0), .ref (xa 45 0), .int (nI (z))]) ++ List.replicate (10 - (lg_sl ([.ref (xa 0 0), .ref (xa 44 0), .ref (xa 45 0), .int (nI (z))])).length) Slot.unset).toArray = ls at hl ⊢
  have hl : lv_has ls 10 [(0, .ref (xa 0 0)), (1, .ref (xa 44 0)), (2, .ref (xa 45 0)), (3, .int (nI (z)))] := hl
  refine lv_iload_n hx hb dL_isStation_0 rfl (lv_at hl 3 rfl) ?_
  refine lv_iconst (v := nI (3)) hx hb dL_isStation_1 (by decide +kernel) ?_
  refine lv_irem hx hb dL_isStation_2 (nI_ne0 (n := 3) (by omega) (by omega)) ?_
  rw [n_rem (a := z) (d := 3) (by omega) (by omega) (by omega)]
  refine lv_istore (lv' := [(4, .int (nI (z % 3))), (0, .ref (xa 0 0)), (1, .ref (xa 44 0)), (2, .ref (xa 45 0)), (3, .int (nI (z)))]) hx hb dL_isStation_3 hl (by decide) rfl (fun ls hl => ?_)
  have hl : lv_has ls 10 [(0, .ref (xa 0 0)), (1, .ref (xa 44 0)), (2, .ref (xa 45 0)), (3, .int (nI (z))), (4, .int (nI (z % 3)))] := lv_sub hl [1, 2, 3, 4, 0] rfl
  obtain ⟨t, ht⟩ : ∃ x_, x_ = z % 3 := ⟨_, rfl⟩
  rw [← ht] at hl
  have b_t : t < 3 := by omega
  refine lv_iload_n hx hb dL_isStation_5 rfl (lv_at hl 3 rfl) ?_
  refine lv_iconst (v := nI (3)) hx hb dL_isStation_6 (by decide +kernel) ?_
  refine lv_idiv hx hb dL_isStation_7 (nI_ne0 (n := 3) (by omega) (by omega)) ?_
  rw [pk_div (a := z) (d := 3) (by omega) (by omega) (by omega)]
  refine lv_istore_n (lv' := [(3, .int (nI (z / 3))), (0, .ref (xa 0 0)), (1, .ref (xa 44 0)), (2, .ref (xa 45 0)), (4, .int (nI (t)))]) hx hb dL_isStation_8 rfl hl (by decide) rfl (fun ls hl => ?_)
  have hl : lv_has ls 10 [(0, .ref (xa 0 0)), (1, .ref (xa 44 0)), (2, .ref (xa 45 0)), (3, .int (nI (z / 3))), (4, .int (nI (t)))] := lv_sub hl [1, 2, 3, 0, 4] rfl
  obtain ⟨y0, hy0⟩ : ∃ x_, x_ = z / 3 := ⟨_, rfl⟩
  rw [← hy0] at hl
  have b_y0 : y0 < 2 ^ 30 := by omega
  have h8t := hs8 t
  refine lv_aload_n hx hb dL_isStation_9 rfl (lv_at hl 2 rfl) ?_
  refine lv_iconst (v := nI (2)) hx hb dL_isStation_10 (by decide +kernel) ?_
  refine lv_iload hx hb dL_isStation_11 (lv_at hl 4 rfl) ?_
  refine lv_iadd hx hb dL_isStation_13 ?_
  rw [nI_add]
  refine x_ild hx hb hW 45 0 (LA_45 LA_x) (2 + t) rfl (by omega) (by omega) (v := nI (σ 11 t)) ((congrArg nI (mv_2 σ (t := t) (by omega)))) dL_isStation_14 ?_
  have b_14 := hB 11 t
  refine lv_istore (lv' := [(5, .int (nI (σ 11 t))), (0, .ref (xa 0 0)), (1, .ref (xa 44 0)), (2, .ref (xa 45 0)), (3, .int (nI (y0))), (4, .int (nI (t)))]) hx hb dL_isStation_15 hl (by decide) rfl (fun ls hl => ?_)
  have hl : lv_has ls 10 [(0, .ref (xa 0 0)), (1, .ref (xa 44 0)), (2, .ref (xa 45 0)), (3, .int (nI (y0))), (4, .int (nI (t))), (5, .int (nI (σ 11 t)))] := lv_sub hl [1, 2, 3, 4, 5, 0] rfl
  refine lv_iload hx hb dL_isStation_17 (lv_at hl 5 rfl) ?_
  refine lv_bipush (v := nI (8)) hx hb dL_isStation_19 (by decide +kernel) ?_
  refine lv_icmp_ne (tgt := 26) hx hb dL_isStation_21 (by decide) (fun c_21 => ?_) (fun c_21 => ?_)
  · -- ne taken
    have c_21 : ¬ (σ 11 t = 8) := fun h_ => c_21 ((x_eqN (a := σ 11 t) (b := 8) (by omega) (by omega)).mpr h_)
    refine lv_iload_n hx hb dL_isStation_26 rfl (lv_at hl 3 rfl) ?_
    refine lv_bipush (v := nI (8)) hx hb dL_isStation_27 (by decide +kernel) ?_
    refine lv_irem hx hb dL_isStation_29 (nI_ne0 (n := 8) (by omega) (by omega)) ?_
    rw [n_rem (a := y0) (d := 8) (by omega) (by omega) (by omega)]
    refine lv_istore (lv' := [(6, .int (nI (y0 % 8))), (0, .ref (xa 0 0)), (1, .ref (xa 44 0)), (2, .ref (xa 45 0)), (3, .int (nI (y0))), (4, .int (nI (t))), (5, .int (nI (σ 11 t)))]) hx hb dL_isStation_30 hl (by decide) rfl (fun ls hl => ?_)
    have hl : lv_has ls 10 [(0, .ref (xa 0 0)), (1, .ref (xa 44 0)), (2, .ref (xa 45 0)), (3, .int (nI (y0))), (4, .int (nI (t))), (5, .int (nI (σ 11 t))), (6, .int (nI (y0 % 8)))] := lv_sub hl [1, 2, 3, 4, 5, 6, 0] rfl
    obtain ⟨p0, hp0⟩ : ∃ x_, x_ = y0 % 8 := ⟨_, rfl⟩
    rw [← hp0] at hl
    have b_p0 : p0 < 8 := by omega
    refine x_joinN (ls := ls) (D := D) (sa := sa) (A := A) (xa := xa) (G := xGs (LG D σ) D xa σ τ) (P := fun v_ => v_ ≤ 5) (mpc := 54) (rest := []) (fun H locs v_54 hW h_54 => ?_) (fun J54 => ?_)
    · try dsimp only at h_54
      refine lv_istore (lv' := [(7, .int (nI (v_54))), (0, .ref (xa 0 0)), (1, .ref (xa 44 0)), (2, .ref (xa 45 0)), (3, .int (nI (y0))), (4, .int (nI (t))), (5, .int (nI (σ 11 t))), (6, .int (nI (p0)))]) hx hb dL_isStation_54 hl (by decide) rfl (fun ls hl => ?_)
      have hl : lv_has ls 10 [(0, .ref (xa 0 0)), (1, .ref (xa 44 0)), (2, .ref (xa 45 0)), (3, .int (nI (y0))), (4, .int (nI (t))), (5, .int (nI (σ 11 t))), (6, .int (nI (p0))), (7, .int (nI (v_54)))] := lv_sub hl [1, 2, 3, 4, 5, 6, 7, 0] rfl
      refine lv_iload_n hx hb dL_isStation_56 rfl (lv_at hl 3 rfl) ?_
      refine lv_bipush (v := nI (72)) hx hb dL_isStation_57 (by decide +kernel) ?_
      refine lv_idiv hx hb dL_isStation_59 (nI_ne0 (n := 72) (by omega) (by omega)) ?_
      rw [pk_div (a := y0) (d := 72) (by omega) (by omega) (by omega)]
      refine lv_iconst (v := nI (5)) hx hb dL_isStation_60 (by decide +kernel) ?_
      refine lv_irem hx hb dL_isStation_61 (nI_ne0 (n := 5) (by omega) (by omega)) ?_
      rw [n_rem (a := y0 / 72) (d := 5) (by omega) (by omega) (by omega)]
      refine lv_istore (lv' := [(8, .int (nI ((y0 / 72) % 5))), (0, .ref (xa 0 0)), (1, .ref (xa 44 0)), (2, .ref (xa 45 0)), (3, .int (nI (y0))), (4, .int (nI (t))), (5, .int (nI (σ 11 t))), (6, .int (nI (p0))), (7, .int (nI (v_54)))]) hx hb dL_isStation_62 hl (by decide) rfl (fun ls hl => ?_)
      have hl : lv_has ls 10 [(0, .ref (xa 0 0)), (1, .ref (xa 44 0)), (2, .ref (xa 45 0)), (3, .int (nI (y0))), (4, .int (nI (t))), (5, .int (nI (σ 11 t))), (6, .int (nI (p0))), (7, .int (nI (v_54))), (8, .int (nI ((y0 / 72) % 5)))] := lv_sub hl [1, 2, 3, 4, 5, 6, 7, 8, 0] rfl
      obtain ⟨a, ha⟩ : ∃ x_, x_ = (y0 / 72) % 5 := ⟨_, rfl⟩
      rw [← ha] at hl
      have b_a : a < 5 := by omega
      refine lv_iload_n hx hb dL_isStation_64 rfl (lv_at hl 3 rfl) ?_
      refine lv_sipush (v := nI (360)) hx hb dL_isStation_65 (by decide +kernel) ?_
      refine lv_idiv hx hb dL_isStation_68 (nI_ne0 (n := 360) (by omega) (by omega)) ?_
      rw [pk_div (a := y0) (d := 360) (by omega) (by omega) (by omega)]
      refine lv_aload_n hx hb dL_isStation_69 rfl (lv_at hl 2 rfl) ?_
      refine lv_iconst (v := nI (0)) hx hb dL_isStation_70 (by decide +kernel) ?_
      refine x_ild hx hb hW 45 0 (LA_45 LA_x) (0) rfl (by omega) (by omega) (v := nI (σ 0 0)) (rfl) dL_isStation_71 ?_
      have b_71 := hB 0 0
      refine lv_sipush (v := nI (1899)) hx hb dL_isStation_72 (by decide +kernel) ?_
      refine lv_isub hx hb dL_isStation_75 ?_
      rw [pk_sub (a := σ 0 0) (b := 1899) (by omega)]
      refine lv_irem hx hb dL_isStation_76 (nI_ne0 (n := (σ 0 0) - 1899) (by omega) (by omega)) ?_
      rw [n_rem (a := y0 / 360) (d := (σ 0 0) - 1899) (by omega) (by omega) (by omega)]
      refine lv_istore (lv' := [(9, .int (nI ((y0 / 360) % ((σ 0 0) - 1899)))), (0, .ref (xa 0 0)), (1, .ref (xa 44 0)), (2, .ref (xa 45 0)), (3, .int (nI (y0))), (4, .int (nI (t))), (5, .int (nI (σ 11 t))), (6, .int (nI (p0))), (7, .int (nI (v_54))), (8, .int (nI (a)))]) hx hb dL_isStation_77 hl (by decide) rfl (fun ls hl => ?_)
      have hl : lv_has ls 10 [(0, .ref (xa 0 0)), (1, .ref (xa 44 0)), (2, .ref (xa 45 0)), (3, .int (nI (y0))), (4, .int (nI (t))), (5, .int (nI (σ 11 t))), (6, .int (nI (p0))), (7, .int (nI (v_54))), (8, .int (nI (a))), (9, .int (nI ((y0 / 360) % ((σ 0 0) - 1899))))] := lv_sub hl [1, 2, 3, 4, 5, 6, 7, 8, 9, 0] rfl
      have bm := Nat.mod_lt (y0 / 360) (show 0 < σ 0 0 - 1899 by omega)
      obtain ⟨y, hy⟩ : ∃ x_, x_ = (y0 / 360) % ((σ 0 0) - 1899) := ⟨_, rfl⟩
      rw [← hy] at hl
      have b_y : y ≤ σ 0 0 - 1900 := by omega
      refine lv_aload_n hx hb dL_isStation_79 rfl (lv_at hl 1 rfl) ?_
      refine lv_bipush (v := nI (8)) hx hb dL_isStation_80 (by decide +kernel) ?_
      refine lv_iload hx hb dL_isStation_82 (lv_at hl 4 rfl) ?_
      refine lv_imul hx hb dL_isStation_84 ?_
      rw [pk_mul]
      refine lv_iload hx hb dL_isStation_85 (lv_at hl 5 rfl) ?_
      refine lv_iadd hx hb dL_isStation_87 ?_
      rw [nI_add]
      refine lv_iload hx hb dL_isStation_88 (lv_at hl 6 rfl) ?_
      refine lv_iload hx hb dL_isStation_90 (lv_at hl 7 rfl) ?_
      refine lv_iconst (v := nI (4)) hx hb dL_isStation_92 (by decide +kernel) ?_
      refine lv_ishl hx hb dL_isStation_93 ?_
      rw [n_shl (a := v_54) (b := 4) (by omega) (by omega)]
      refine lv_ior hx hb dL_isStation_94 ?_
      rw [nI_or]
      refine lv_iload hx hb dL_isStation_95 (lv_at hl 8 rfl) ?_
      refine lv_bipush (v := nI (8)) hx hb dL_isStation_97 (by decide +kernel) ?_
      refine lv_ishl hx hb dL_isStation_99 ?_
      rw [n_shl (a := a) (b := 8) (by omega) (by omega)]
      refine lv_ior hx hb dL_isStation_100 ?_
      rw [nI_or]
      refine lv_iload hx hb dL_isStation_101 (lv_at hl 9 rfl) ?_
      refine lv_bipush (v := nI (12)) hx hb dL_isStation_103 (by decide +kernel) ?_
      refine lv_ishl hx hb dL_isStation_105 ?_
      rw [n_shl (a := y) (b := 12) (by omega) (by omega)]
      refine lv_ior hx hb dL_isStation_106 ?_
      rw [nI_or]
      refine x_ist hx hb hW 44 0 (LA_44 LA_x) (8 * t + σ 11 t) rfl (by omega) (by omega) dL_isStation_107 fun H locs hW => ?_
      have hW : xW D sa A s xa (xGs (LGf D (pf σ) (hf σ) (wf σ) (tf σ) (upd (cf σ) (8 * t + σ 11 t) (nI (((p0 ||| (v_54 * 2 ^ 4)) ||| (a * 2 ^ 8)) ||| (y * 2 ^ 12)))) (mf σ)) D xa σ τ) H locs := hW.eqG (LG_up (by omega) (LG_c _)).symm
      refine lv_aload_n hx hb dL_isStation_108 rfl (lv_at hl 2 rfl) ?_
      refine lv_iconst (v := nI (2)) hx hb dL_isStation_109 (by decide +kernel) ?_
      refine lv_iload hx hb dL_isStation_110 (lv_at hl 4 rfl) ?_
      refine lv_iadd hx hb dL_isStation_112 ?_
      rw [nI_add]
      refine lv_dup2_11 hx hb dL_isStation_113 rfl rfl ?_
      refine x_ild hx hb hW 45 0 (LA_45 LA_x) (2 + t) rfl (by omega) (by omega) (v := nI (σ 11 t)) ((congrArg nI (mv_2 σ (t := t) (by omega)))) dL_isStation_114 ?_
      have b_114 := hB 11 t
      refine lv_iconst (v := nI (1)) hx hb dL_isStation_115 (by decide +kernel) ?_
      refine lv_iadd hx hb dL_isStation_116 ?_
      rw [nI_add]
      refine x_ist hx hb hW 45 0 (LA_45 LA_x) (2 + t) rfl (by omega) (by omega) dL_isStation_117 fun H locs hW => ?_
      have hW : xW D sa A s xa (xGs (LGf D (pf σ) (hf σ) (wf σ) (tf σ) (upd (cf σ) (8 * t + σ 11 t) (nI (((p0 ||| (v_54 * 2 ^ 4)) ||| (a * 2 ^ 8)) ||| (y * 2 ^ 12)))) (upd (mf σ) (2 + t) (nI (σ 11 t + 1)))) D xa σ τ) H locs := hW.eqG (LG_up (by omega) (LG_m _)).symm
      refine lv_aload_n hx hb dL_isStation_118 rfl (lv_at hl 0 rfl) ?_
      refine lv_iload hx hb dL_isStation_119 (lv_at hl 4 rfl) ?_
      refine lv_iload hx hb dL_isStation_121 (lv_at hl 6 rfl) ?_
      refine lv_iload hx hb dL_isStation_123 (lv_at hl 7 rfl) ?_
      refine lv_iload hx hb dL_isStation_125 (lv_at hl 8 rfl) ?_
      refine lv_sipush (v := nI (1900)) hx hb dL_isStation_127 (by decide +kernel) ?_
      refine lv_iload hx hb dL_isStation_130 (lv_at hl 9 rfl) ?_
      refine lv_iadd hx hb dL_isStation_132 ?_
      rw [nI_add]
      refine yg_i (k := 0) (i := 0) (As := [.int (nI (t)), .int (nI (p0)), .int (nI (v_54)), .int (nI (a)), .int (nI (1900 + y))]) (rest := []) ⟨hx, hb, hml, hown, hts⟩ (c_X4_station l hst0 D sa xa (LGf D (pf σ) (hf σ) (wf σ) (tf σ) (upd (cf σ) (8 * t + σ 11 t) (nI (((p0 ||| (v_54 * 2 ^ 4)) ||| (a * 2 ^ 8)) ||| (y * 2 ^ 12)))) (upd (mf σ) (2 + t) (nI (σ 11 t + 1)))) σ τ hg hL hT (nI (t)) (nI (p0)) (nI (v_54)) (nI (a)) (nI (1900 + y))) (fun E => pxk_no ⟨(pT_of (i := t) (by omega) (by omega)), (pP_of (i := p0) (by omega) (by omega)), pL_of (by omega)⟩ ⟨rg_of (n := v_54) (by omega) (by omega) (by omega), by rw [nI_toInt (by omega)]; omega, by rw [nI_toInt (by omega)]; omega⟩ (by rw [xn_nI (by omega)]; omega)) (cwV 5 hts gL_isStation_X4_station rfl rfl rfl (by decide +kernel) ⟨Nat.le_of_ble_eq_true rfl, Nat.le_of_ble_eq_true rfl⟩) hW (xg_x (LGf D (pf σ) (hf σ) (wf σ) (tf σ) (upd (cf σ) (8 * t + σ 11 t) (nI (((p0 ||| (v_54 * 2 ^ 4)) ||| (a * 2 ^ 8)) ||| (y * 2 ^ 12)))) (upd (mf σ) (2 + t) (nI (σ 11 t + 1)))) D xa σ τ) rfl rfl rfl rfl hl.1 (Nat.le_of_ble_eq_true rfl) dL_isStation_133 ⟨Nat.le_of_ble_eq_true rfl, Nat.le_of_ble_eq_true rfl⟩ (fun r_133 xa1 G1 H locs hp hW => ?_)
      obtain ⟨hgk, xb1, τ1, hag1, hu, hL1, hT1, hans⟩ := hp
      have hu2 : G1 = _ := congrArg Prod.snd hu
      subst hu2
      have hu1 : xb1 = xa1 := (congrArg Prod.fst hu).symm
      subst hu1
      have hl : lv_has ls 10 [(0, .ref (xb1 0 0)), (1, .ref (xb1 44 0)), (2, .ref (xb1 45 0)), (3, .int (nI (y0))), (4, .int (nI (t))), (5, .int (nI (σ 11 t))), (6, .int (nI (p0))), (7, .int (nI (v_54))), (8, .int (nI (a))), (9, .int (nI (y)))] := by rw [hag1 0 0 (by omega), hag1 44 0 (by omega), hag1 45 0 (by omega)]; exact hl
      have hI1 : LI (t_station σ (nI (t)) (nI (p0)) (nI (v_54)) (nI (a)) (nI (1900 + y)) 0) := LI_station hI hgk
      rw [xn_nI (n := t) (by omega)] at hans
      have e_133 : r_133 = nI (σ 11 t) := Int32.toInt_inj.mp (by rw [hans, nI_toInt (by omega)])
      subst e_133
      show W _ _ _ _ _ _ _ _ _ _ _ _ _ _ _ (F0 _ 136 ls [.int (nI (σ 11 t))])
      refine lv_iload hx hb dL_isStation_136 (lv_at hl 5 rfl) ?_
      refine lv_icmp_ne (tgt := 145) hx hb dL_isStation_138 (by decide) (fun c_138 => ?_) (fun c_138 => ?_)
      · -- ne taken
        exact absurd rfl c_138
      · -- ne not
        refine lv_iconst (v := nI (1)) hx hb dL_isStation_141 (by decide +kernel) ?_
        refine lv_goto (tgt := 146) hx hb dL_isStation_142 (by decide) ?_
        have hW : xW D sa A s xb1 (xGs (LG D (t_station σ (nI (t)) (nI (p0)) (nI (v_54)) (nI (a)) (nI (1900 + y)) 0)) D xb1 (t_station σ (nI (t)) (nI (p0)) (nI (v_54)) (nI (a)) (nI (1900 + y)) 0) τ1) H locs := hW.eqG (congrArg (fun g => xGs g D xb1 (t_station σ (nI (t)) (nI (p0)) (nI (v_54)) (nI (a)) (nI (1900 + y)) 0) τ1) (LG_station (D := D) hI b_t b_p0 (by omega) b_a (by omega) (by omega))).symm
        exact xe_i hx hb hr rfl hlocks hW ⟨_, hI1, xb1, τ1, hag1, rfl, hL1, hT1, rfl⟩ (Nat.le_of_ble_eq_true rfl) (Nat.le_of_ble_eq_true rfl) dL_isStation_146
    ·
      refine lv_iload_n hx hb dL_isStation_32 rfl (lv_at hl 3 rfl) ?_
      refine lv_bipush (v := nI (8)) hx hb dL_isStation_33 (by decide +kernel) ?_
      refine lv_idiv hx hb dL_isStation_35 (nI_ne0 (n := 8) (by omega) (by omega)) ?_
      rw [pk_div (a := y0) (d := 8) (by omega) (by omega) (by omega)]
      refine lv_bipush (v := nI (9)) hx hb dL_isStation_36 (by decide +kernel) ?_
      refine lv_irem hx hb dL_isStation_38 (nI_ne0 (n := 9) (by omega) (by omega)) ?_
      rw [n_rem (a := y0 / 8) (d := 9) (by omega) (by omega) (by omega)]
      refine lv_iconst (v := nI (5)) hx hb dL_isStation_39 (by decide +kernel) ?_
      refine lv_icmp_le (tgt := 47) hx hb dL_isStation_40 (by decide) (fun c_40 => ?_) (fun c_40 => ?_)
      · -- le taken
        have c_40 := Int32.le_iff_toInt_le.mp c_40
        rw [nI_toInt (n := (y0 / 8) % 9) (by omega)] at c_40
        rw [nI_toInt (n := 5) (by omega)] at c_40
        refine lv_iload_n hx hb dL_isStation_47 rfl (lv_at hl 3 rfl) ?_
        refine lv_bipush (v := nI (8)) hx hb dL_isStation_48 (by decide +kernel) ?_
        refine lv_idiv hx hb dL_isStation_50 (nI_ne0 (n := 8) (by omega) (by omega)) ?_
        rw [pk_div (a := y0) (d := 8) (by omega) (by omega) (by omega)]
        refine lv_bipush (v := nI (9)) hx hb dL_isStation_51 (by decide +kernel) ?_
        refine lv_irem hx hb dL_isStation_53 (nI_ne0 (n := 9) (by omega) (by omega)) ?_
        rw [n_rem (a := y0 / 8) (d := 9) (by omega) (by omega) (by omega)]
        exact J54 _ _ ((y0 / 8) % 9) hW (by omega)
      · -- le not
        have c_40 : ¬ ((nI ((y0 / 8) % 9)).toInt ≤ (nI (5)).toInt) := fun h => c_40 (Int32.le_iff_toInt_le.mpr h)
        rw [nI_toInt (n := (y0 / 8) % 9) (by omega)] at c_40
        rw [nI_toInt (n := 5) (by omega)] at c_40
        refine lv_iconst (v := nI (0)) hx hb dL_isStation_43 (by decide +kernel) ?_
        refine lv_goto (tgt := 54) hx hb dL_isStation_44 (by decide) ?_
        exact J54 _ _ (0) hW (by omega)
  · -- ne not
    have c_21 := (x_eqN (a := σ 11 t) (b := 8) (by omega) (by omega)).mp c_21
    refine lv_iconst (v := nI (1)) hx hb dL_isStation_24 (by decide +kernel) ?_
    exact xe_i hx hb hr rfl hlocks hW ⟨σ, hI, xa, τ, fun _ _ _ => rfl, rfl, hL, hT, rfl⟩ (Nat.le_of_ble_eq_true rfl) (Nat.le_of_ble_eq_true rfl) dL_isStation_25

set_option maxHeartbeats 4000000 in
set_option maxRecDepth 100000 in
theorem c_L_isTold (l : Launch) (hst0 : l.stackTraces = false) (D : xD) (sa : Nat → Nat) (xa : xA) (σ : Sg) (τ : Tg) (hI : LI σ) (hL : LL σ τ) (hT : TE σ τ) (way z : Nat) (hw : way < 3) (hz : z < 2 ^ 30) : xCi l yL_isTold wsL_isTold ({ frames := 20, cells := 3, slots := 18, locals := 700 } : Room) D sa xa (xGs (LG D σ) D xa σ τ) [.ref (xa 0 0), .ref (xa 43 0), .ref (xa 44 0), .ref (xa 45 0), .int (nI (way)), .int (nI (z))] (fun r u => xOp D xa r u) 3 18 := by
  have hg := hI.1
  have hB := hg.1
  have h5 := hI.2.1
  have h12 := hI.2.2.1
  have h7 := hI.2.2.2
  have hs8 := hg.hs8
  have hy0 := hg.2.1.2.2.2.1
  have hy1 := hg.2.1.2.2.2.2
  intro sz
  refine Met.ofW (cc := cL_isTold) (maxL := 12) (ret := (some .boolean)) (by decide +kernel) rfl ?_
  intro p e s m args below meth c s₁ B hml hv
  obtain ⟨rfl, hsz, hv2⟩ := hv
  subst hsz
  have hx := B.exec
  have hb := B.bytes
  have hr := B.returns
  have hts := atoms_spec (ws := wsL_isTold) B.pre
  have hown : s.vm.findClass RL = some m.cls := findClass_of_methodNamed B.named
  have hlocks := B.notSynchronized
  have hW := xW.start (s := s) ⟨rfl, hv2⟩
  clear hv2
  generalize xAw xa (xGs (LG D σ) D xa σ τ) s.heap.size = A at hW ⊢
  have hl := lv_entry ([.ref (xa 0 0), .ref (xa 43 0), .ref (xa 44 0), .ref (xa 45 0), .int (nI (way)), .int (nI (z))]) (n := 12) (Nat.le_of_ble_eq_true rfl)
  rw [lg_entry_eq]
  generalize (lg_sl ([.ref (xa 0 0), .ref (xa 43 0), .ref (xa 44 0), .ref (xa 45 0), .int (nI (way)), .int (nI (z))]) ++ List.replicate (12 - (lg_sl ([.ref (xa 0 0), .ref (xa 43 0), .ref (xa 44 0), .ref (xa 45 0), .int (nI (way)), .int (nI (z))])).length) Slot.unset).toArray = ls at hl ⊢
  have hl : lv_has ls 12 [(0, .ref (xa 0 0)), (1, .ref (xa 43 0)), (2, .ref (xa 44 0)), (3, .ref (xa 45 0)), (4, .int (nI (way))), (5, .int (nI (z)))] := hl
  refine lv_iload hx hb dL_isTold_0 (lv_at hl 5 rfl) ?_
  refine lv_iconst (v := nI (3)) hx hb dL_isTold_2 (by decide +kernel) ?_
  refine lv_irem hx hb dL_isTold_3 (nI_ne0 (n := 3) (by omega) (by omega)) ?_
  rw [n_rem (a := z) (d := 3) (by omega) (by omega) (by omega)]
  refine lv_istore (lv' := [(6, .int (nI (z % 3))), (0, .ref (xa 0 0)), (1, .ref (xa 43 0)), (2, .ref (xa 44 0)), (3, .ref (xa 45 0)), (4, .int (nI (way))), (5, .int (nI (z)))]) hx hb dL_isTold_4 hl (by decide) rfl (fun ls hl => ?_)
  have hl : lv_has ls 12 [(0, .ref (xa 0 0)), (1, .ref (xa 43 0)), (2, .ref (xa 44 0)), (3, .ref (xa 45 0)), (4, .int (nI (way))), (5, .int (nI (z))), (6, .int (nI (z % 3)))] := lv_sub hl [1, 2, 3, 4, 5, 6, 0] rfl
  obtain ⟨t, ht⟩ : ∃ x_, x_ = z % 3 := ⟨_, rfl⟩
  rw [← ht] at hl
  have b_t : t < 3 := by omega
  have h8t := hs8 t
  refine lv_iload hx hb dL_isTold_6 (lv_at hl 4 rfl) ?_
  refine lv_if_ne (tgt := 119) hx hb dL_isTold_8 (by decide) (fun c_8 => ?_) (fun c_8 => ?_)
  · -- ne taken
    have c_8 : ¬ (way = 0) := fun h_ => c_8 ((x_eqZ (a := way) (by omega)).mpr h_)
    refine lv_aload_n hx hb dL_isTold_119 rfl (lv_at hl 3 rfl) ?_
    refine lv_iconst (v := nI (2)) hx hb dL_isTold_120 (by decide +kernel) ?_
    refine lv_iload hx hb dL_isTold_121 (lv_at hl 6 rfl) ?_
    refine lv_iadd hx hb dL_isTold_123 ?_
    rw [nI_add]
    refine x_ild hx hb hW 45 0 (LA_45 LA_x) (2 + t) rfl (by omega) (by omega) (v := nI (σ 11 t)) ((congrArg nI (mv_2 σ (t := t) (by omega)))) dL_isTold_124 ?_
    have b_124 := hB 11 t
    refine lv_if_ne (tgt := 130) hx hb dL_isTold_125 (by decide) (fun c_125 => ?_) (fun c_125 => ?_)
    · -- ne taken
      have c_125 : ¬ (σ 11 t = 0) := fun h_ => c_125 ((x_eqZ (a := σ 11 t) (by omega)).mpr h_)
      refine lv_iload hx hb dL_isTold_130 (lv_at hl 5 rfl) ?_
      refine lv_iconst (v := nI (3)) hx hb dL_isTold_132 (by decide +kernel) ?_
      refine lv_idiv hx hb dL_isTold_133 (nI_ne0 (n := 3) (by omega) (by omega)) ?_
      rw [pk_div (a := z) (d := 3) (by omega) (by omega) (by omega)]
      refine lv_aload_n hx hb dL_isTold_134 rfl (lv_at hl 3 rfl) ?_
      refine lv_iconst (v := nI (2)) hx hb dL_isTold_135 (by decide +kernel) ?_
      refine lv_iload hx hb dL_isTold_136 (lv_at hl 6 rfl) ?_
      refine lv_iadd hx hb dL_isTold_138 ?_
      rw [nI_add]
      refine x_ild hx hb hW 45 0 (LA_45 LA_x) (2 + t) rfl (by omega) (by omega) (v := nI (σ 11 t)) ((congrArg nI (mv_2 σ (t := t) (by omega)))) dL_isTold_139 ?_
      have b_139 := hB 11 t
      refine lv_irem hx hb dL_isTold_140 (nI_ne0 (n := σ 11 t) (by omega) (by omega)) ?_
      rw [n_rem (a := z / 3) (d := σ 11 t) (by omega) (by omega) (by omega)]
      refine lv_istore (lv' := [(7, .int (nI ((z / 3) % (σ 11 t)))), (0, .ref (xa 0 0)), (1, .ref (xa 43 0)), (2, .ref (xa 44 0)), (3, .ref (xa 45 0)), (4, .int (nI (way))), (5, .int (nI (z))), (6, .int (nI (t)))]) hx hb dL_isTold_141 hl (by decide) rfl (fun ls hl => ?_)
      have hl : lv_has ls 12 [(0, .ref (xa 0 0)), (1, .ref (xa 43 0)), (2, .ref (xa 44 0)), (3, .ref (xa 45 0)), (4, .int (nI (way))), (5, .int (nI (z))), (6, .int (nI (t))), (7, .int (nI ((z / 3) % (σ 11 t))))] := lv_sub hl [1, 2, 3, 4, 5, 6, 7, 0] rfl
      have bm := Nat.mod_lt (z / 3) (show 0 < σ 11 t by omega)
      obtain ⟨k, hk⟩ : ∃ x_, x_ = (z / 3) % (σ 11 t) := ⟨_, rfl⟩
      rw [← hk] at hl
      have b_k : k < σ 11 t := by omega
      have hcp := hI.cp b_t b_k
      have hcp2 := hcp
      unfold cpo at hcp2
      refine lv_bipush (v := nI (8)) hx hb dL_isTold_143 (by decide +kernel) ?_
      refine lv_iload hx hb dL_isTold_145 (lv_at hl 6 rfl) ?_
      refine lv_imul hx hb dL_isTold_147 ?_
      rw [pk_mul]
      refine lv_iload hx hb dL_isTold_148 (lv_at hl 7 rfl) ?_
      refine lv_iadd hx hb dL_isTold_150 ?_
      rw [nI_add]
      refine lv_istore (lv' := [(8, .int (nI (8 * t + k))), (0, .ref (xa 0 0)), (1, .ref (xa 43 0)), (2, .ref (xa 44 0)), (3, .ref (xa 45 0)), (4, .int (nI (way))), (5, .int (nI (z))), (6, .int (nI (t))), (7, .int (nI (k)))]) hx hb dL_isTold_151 hl (by decide) rfl (fun ls hl => ?_)
      have hl : lv_has ls 12 [(0, .ref (xa 0 0)), (1, .ref (xa 43 0)), (2, .ref (xa 44 0)), (3, .ref (xa 45 0)), (4, .int (nI (way))), (5, .int (nI (z))), (6, .int (nI (t))), (7, .int (nI (k))), (8, .int (nI (8 * t + k)))] := lv_sub hl [1, 2, 3, 4, 5, 6, 7, 8, 0] rfl
      refine lv_iload hx hb dL_isTold_153 (lv_at hl 5 rfl) ?_
      refine lv_bipush (v := nI (24)) hx hb dL_isTold_155 (by decide +kernel) ?_
      refine lv_idiv hx hb dL_isTold_157 (nI_ne0 (n := 24) (by omega) (by omega)) ?_
      rw [pk_div (a := z) (d := 24) (by omega) (by omega) (by omega)]
      refine lv_iconst (v := nI (3)) hx hb dL_isTold_158 (by decide +kernel) ?_
      refine lv_irem hx hb dL_isTold_159 (nI_ne0 (n := 3) (by omega) (by omega)) ?_
      rw [n_rem (a := z / 24) (d := 3) (by omega) (by omega) (by omega)]
      refine lv_if_le (tgt := 167) hx hb dL_isTold_160 (by decide) (fun c_160 => ?_) (fun c_160 => ?_)
      · -- le taken
        have c_160 := Int32.le_iff_toInt_le.mp c_160
        rw [nI_toInt (n := (z / 24) % 3) (by omega)] at c_160
        rw [x_t0] at c_160
        refine lv_iconst (v := nI (0)) hx hb dL_isTold_167 (by decide +kernel) ?_
        refine lv_istore (lv' := [(9, .int (nI (0))), (0, .ref (xa 0 0)), (1, .ref (xa 43 0)), (2, .ref (xa 44 0)), (3, .ref (xa 45 0)), (4, .int (nI (way))), (5, .int (nI (z))), (6, .int (nI (t))), (7, .int (nI (k))), (8, .int (nI (8 * t + k)))]) hx hb dL_isTold_168 hl (by decide) rfl (fun ls hl => ?_)
        have hl : lv_has ls 12 [(0, .ref (xa 0 0)), (1, .ref (xa 43 0)), (2, .ref (xa 44 0)), (3, .ref (xa 45 0)), (4, .int (nI (way))), (5, .int (nI (z))), (6, .int (nI (t))), (7, .int (nI (k))), (8, .int (nI (8 * t + k))), (9, .int (nI (0)))] := lv_sub hl [1, 2, 3, 4, 5, 6, 7, 8, 9, 0] rfl
        refine lv_iload hx hb dL_isTold_170 (lv_at hl 4 rfl) ?_
        refine lv_iconst (v := nI (1)) hx hb dL_isTold_172 (by decide +kernel) ?_
        refine lv_icmp_ne (tgt := 181) hx hb dL_isTold_173 (by decide) (fun c_173 => ?_) (fun c_173 => ?_)
        · -- ne taken
          have c_173 : ¬ (way = 1) := fun h_ => c_173 ((x_eqN (a := way) (b := 1) (by omega) (by omega)).mpr h_)
          refine lv_bipush (v := nI (25)) hx hb dL_isTold_181 (by decide +kernel) ?_
          refine lv_istore (lv' := [(10, .int (nI (25))), (0, .ref (xa 0 0)), (1, .ref (xa 43 0)), (2, .ref (xa 44 0)), (3, .ref (xa 45 0)), (4, .int (nI (way))), (5, .int (nI (z))), (6, .int (nI (t))), (7, .int (nI (k))), (8, .int (nI (8 * t + k))), (9, .int (nI (0)))]) hx hb dL_isTold_183 hl (by decide) rfl (fun ls hl => ?_)
          have hl : lv_has ls 12 [(0, .ref (xa 0 0)), (1, .ref (xa 43 0)), (2, .ref (xa 44 0)), (3, .ref (xa 45 0)), (4, .int (nI (way))), (5, .int (nI (z))), (6, .int (nI (t))), (7, .int (nI (k))), (8, .int (nI (8 * t + k))), (9, .int (nI (0))), (10, .int (nI (25)))] := lv_sub hl [1, 2, 3, 4, 5, 6, 7, 8, 9, 10, 0] rfl
          refine lv_iload hx hb dL_isTold_185 (lv_at hl 4 rfl) ?_
          refine lv_iconst (v := nI (1)) hx hb dL_isTold_187 (by decide +kernel) ?_
          refine lv_icmp_ne (tgt := 205) hx hb dL_isTold_188 (by decide) (fun c_188 => ?_) (fun c_188 => ?_)
          · -- ne taken
            have c_188 : ¬ (way = 1) := fun h_ => c_188 ((x_eqN (a := way) (b := 1) (by omega) (by omega)).mpr h_)
            refine lv_aload_n hx hb dL_isTold_205 rfl (lv_at hl 2 rfl) ?_
            refine lv_iload hx hb dL_isTold_206 (lv_at hl 8 rfl) ?_
            refine x_ild hx hb hW 44 0 (LA_44 LA_x) (8 * t + k) rfl (by omega) (by omega) (v := nI (cpv σ (8 * t + k))) (rfl) dL_isTold_208 ?_
            have b_208 := LI.cp hI (t := t) (k := k) (by omega) (by omega)
            refine lv_iload hx hb dL_isTold_209 (lv_at hl 10 rfl) ?_
            refine lv_ishr hx hb dL_isTold_211 ?_
            rw [bt_shr (m := cpv σ (8 * t + k)) (b := 25) (cp_lt b_208) (by omega)]
            refine lv_iconst (v := nI (1)) hx hb dL_isTold_212 (by decide +kernel) ?_
            refine lv_iand hx hb dL_isTold_213 ?_
            rw [cp_s b_208]
            have bb_213 := b_208
            unfold cpo at bb_213
            refine lv_iconst (v := nI (1)) hx hb dL_isTold_214 (by decide +kernel) ?_
            refine lv_icmp_ne (tgt := 222) hx hb dL_isTold_215 (by decide) (fun c_215 => ?_) (fun c_215 => ?_)
            · -- ne taken
              have c_215 : ¬ (σ 18 (8 * t + k) = 1) := fun h_ => c_215 ((x_eqN (a := σ 18 (8 * t + k)) (b := 1) (by omega) (by omega)).mpr h_)
              refine lv_iconst (v := nI (0)) hx hb dL_isTold_222 (by decide +kernel) ?_
              refine lv_istore (lv' := [(11, .int (nI (0))), (0, .ref (xa 0 0)), (1, .ref (xa 43 0)), (2, .ref (xa 44 0)), (3, .ref (xa 45 0)), (4, .int (nI (way))), (5, .int (nI (z))), (6, .int (nI (t))), (7, .int (nI (k))), (8, .int (nI (8 * t + k))), (9, .int (nI (0))), (10, .int (nI (25)))]) hx hb dL_isTold_223 hl (by decide) rfl (fun ls hl => ?_)
              have hl : lv_has ls 12 [(0, .ref (xa 0 0)), (1, .ref (xa 43 0)), (2, .ref (xa 44 0)), (3, .ref (xa 45 0)), (4, .int (nI (way))), (5, .int (nI (z))), (6, .int (nI (t))), (7, .int (nI (k))), (8, .int (nI (8 * t + k))), (9, .int (nI (0))), (10, .int (nI (25))), (11, .int (nI (0)))] := lv_sub hl [1, 2, 3, 4, 5, 6, 7, 8, 9, 10, 11, 0] rfl
              refine lv_aload_n hx hb dL_isTold_225 rfl (lv_at hl 2 rfl) ?_
              refine lv_iload hx hb dL_isTold_226 (lv_at hl 8 rfl) ?_
              refine lv_iload hx hb dL_isTold_228 (lv_at hl 9 rfl) ?_
              refine lv_if_eq (tgt := 245) hx hb dL_isTold_230 (by decide) (fun c_230 => ?_) (fun c_230 => ?_)
              · -- eq taken
                refine lv_aload_n hx hb dL_isTold_245 rfl (lv_at hl 2 rfl) ?_
                refine lv_iload hx hb dL_isTold_246 (lv_at hl 8 rfl) ?_
                refine x_ild hx hb hW 44 0 (LA_44 LA_x) (8 * t + k) rfl (by omega) (by omega) (v := nI (cpv σ (8 * t + k))) (rfl) dL_isTold_248 ?_
                have b_248 := LI.cp hI (t := t) (k := k) (by omega) (by omega)
                refine lv_iconst (v := nI (1)) hx hb dL_isTold_249 (by decide +kernel) ?_
                refine lv_iload hx hb dL_isTold_250 (lv_at hl 10 rfl) ?_
                refine lv_ishl hx hb dL_isTold_252 ?_
                rw [bt_shl (b := 25) (by omega)]
                refine lv_iconst (v := -1) hx hb dL_isTold_253 (by decide +kernel) ?_
                refine lv_ixor hx hb dL_isTold_254 ?_
                rw [bt_m1, nI_xor]
                refine lv_iand hx hb dL_isTold_255 ?_
                rw [nI_and]
                refine x_ist hx hb hW 44 0 (LA_44 LA_x) (8 * t + k) rfl (by omega) (by omega) dL_isTold_256 fun H locs hW => ?_
                have hW : xW D sa A s xa (xGs (LGf D (pf σ) (hf σ) (wf σ) (tf σ) (upd (cf σ) (8 * t + k) (nI ((cpv σ (8 * t + k)) &&& ((2 ^ 25) ^^^ 4294967295)))) (mf σ)) D xa σ τ) H locs := hW.eqG (LG_up (by omega) (LG_c _)).symm
                refine lv_iload hx hb dL_isTold_257 (lv_at hl 4 rfl) ?_
                refine lv_iconst (v := nI (1)) hx hb dL_isTold_259 (by decide +kernel) ?_
                refine lv_icmp_ne (tgt := 276) hx hb dL_isTold_260 (by decide) (fun c_260 => ?_) (fun c_260 => ?_)
                · -- ne taken
                  have c_260 : ¬ (way = 1) := fun h_ => c_260 ((x_eqN (a := way) (b := 1) (by omega) (by omega)).mpr h_)
                  refine lv_aload_n hx hb dL_isTold_276 rfl (lv_at hl 0 rfl) ?_
                  refine lv_iload hx hb dL_isTold_277 (lv_at hl 6 rfl) ?_
                  refine lv_iload hx hb dL_isTold_279 (lv_at hl 7 rfl) ?_
                  refine lv_iload hx hb dL_isTold_281 (lv_at hl 9 rfl) ?_
                  refine yg_i (k := 0) (i := 0) (As := [.int (nI (t)), .int (nI (k)), .int (nI (0))]) (rest := []) ⟨hx, hb, hml, hown, hts⟩ (c_X4_settle l hst0 D sa xa (LGf D (pf σ) (hf σ) (wf σ) (tf σ) (upd (cf σ) (8 * t + k) (nI ((cpv σ (8 * t + k)) &&& ((2 ^ 25) ^^^ 4294967295)))) (mf σ)) σ τ hg hL hT (nI (t)) (nI (k)) 0 (by decide)) (fun E => pxk_no (pS_of (i := t) (k := k) (by omega) (by omega) (by omega) (by omega)) trivial trivial) (cwV 3 hts gL_isTold_X4_settle rfl rfl rfl (by decide +kernel) ⟨Nat.le_of_ble_eq_true rfl, Nat.le_of_ble_eq_true rfl⟩) hW (xg_x (LGf D (pf σ) (hf σ) (wf σ) (tf σ) (upd (cf σ) (8 * t + k) (nI ((cpv σ (8 * t + k)) &&& ((2 ^ 25) ^^^ 4294967295)))) (mf σ)) D xa σ τ) rfl rfl rfl rfl hl.1 (Nat.le_of_ble_eq_true rfl) dL_isTold_283 ⟨Nat.le_of_ble_eq_true rfl, Nat.le_of_ble_eq_true rfl⟩ (fun r_283 xa1 G1 H locs hp hW => ?_)
                  obtain ⟨hgk, xb1, τ1, hag1, hu, hL1, hT1, hans⟩ := hp
                  have hu2 : G1 = _ := congrArg Prod.snd hu
                  subst hu2
                  have hu1 : xb1 = xa1 := (congrArg Prod.fst hu).symm
                  subst hu1
                  have hl : lv_has ls 12 [(0, .ref (xb1 0 0)), (1, .ref (xb1 43 0)), (2, .ref (xb1 44 0)), (3, .ref (xb1 45 0)), (4, .int (nI (way))), (5, .int (nI (z))), (6, .int (nI (t))), (7, .int (nI (k))), (8, .int (nI (8 * t + k))), (9, .int (nI (0))), (10, .int (nI (25))), (11, .int (nI (0)))] := by rw [hag1 0 0 (by omega), hag1 43 0 (by omega), hag1 44 0 (by omega), hag1 45 0 (by omega)]; exact hl
                  have hI1 : LI (t_settle σ (nI (t)) (nI (k)) 0 0) := LI_settle hI (by decide) hgk
                  rw [xn_nI (n := t) (by omega), xn_nI (n := k) (by omega)] at hans
                  have e_283 := hans.uniq (tv.zero (P := σ 18 (8 * t + k) = 1) (by omega)) Iff.rfl
                  subst e_283
                  show W _ _ _ _ _ _ _ _ _ _ _ _ _ _ _ (F0 _ 286 ls [.int (nI (0))])
                  refine lv_iload hx hb dL_isTold_286 (lv_at hl 11 rfl) ?_
                  refine lv_icmp_ne (tgt := 295) hx hb dL_isTold_288 (by decide) (fun c_288 => ?_) (fun c_288 => ?_)
                  · -- ne taken
                    exact absurd (by decide) c_288
                  · -- ne not
                    refine lv_iconst (v := nI (1)) hx hb dL_isTold_291 (by decide +kernel) ?_
                    refine lv_goto (tgt := 296) hx hb dL_isTold_292 (by decide) ?_
                    have hW : xW D sa A s xb1 (xGs (LG D (t_settle σ (nI (t)) (nI (k)) 0 0)) D xb1 (t_settle σ (nI (t)) (nI (k)) 0 0) τ1) H locs := hW.eqG (congrArg (fun g => xGs g D xb1 (t_settle σ (nI (t)) (nI (k)) 0 0) τ1) (LG_settle0 (D := D) b_t (by omega) hcp)).symm
                    exact xe_i hx hb hr rfl hlocks hW ⟨_, hI1, xb1, τ1, hag1, rfl, hL1, hT1, rfl⟩ (Nat.le_of_ble_eq_true rfl) (Nat.le_of_ble_eq_true rfl) dL_isTold_296
                · -- ne not
                  have c_260 := (x_eqN (a := way) (b := 1) (by omega) (by omega)).mp c_260
                  exact absurd c_260 (by omega)
              · -- eq not
                exact absurd (by decide) c_230
            · -- ne not
              have c_215 := (x_eqN (a := σ 18 (8 * t + k)) (b := 1) (by omega) (by omega)).mp c_215
              refine lv_iconst (v := nI (1)) hx hb dL_isTold_218 (by decide +kernel) ?_
              refine lv_goto (tgt := 223) hx hb dL_isTold_219 (by decide) ?_
              refine lv_istore (lv' := [(11, .int (nI (1))), (0, .ref (xa 0 0)), (1, .ref (xa 43 0)), (2, .ref (xa 44 0)), (3, .ref (xa 45 0)), (4, .int (nI (way))), (5, .int (nI (z))), (6, .int (nI (t))), (7, .int (nI (k))), (8, .int (nI (8 * t + k))), (9, .int (nI (0))), (10, .int (nI (25)))]) hx hb dL_isTold_223 hl (by decide) rfl (fun ls hl => ?_)
              have hl : lv_has ls 12 [(0, .ref (xa 0 0)), (1, .ref (xa 43 0)), (2, .ref (xa 44 0)), (3, .ref (xa 45 0)), (4, .int (nI (way))), (5, .int (nI (z))), (6, .int (nI (t))), (7, .int (nI (k))), (8, .int (nI (8 * t + k))), (9, .int (nI (0))), (10, .int (nI (25))), (11, .int (nI (1)))] := lv_sub hl [1, 2, 3, 4, 5, 6, 7, 8, 9, 10, 11, 0] rfl
              refine lv_aload_n hx hb dL_isTold_225 rfl (lv_at hl 2 rfl) ?_
              refine lv_iload hx hb dL_isTold_226 (lv_at hl 8 rfl) ?_
              refine lv_iload hx hb dL_isTold_228 (lv_at hl 9 rfl) ?_
              refine lv_if_eq (tgt := 245) hx hb dL_isTold_230 (by decide) (fun c_230 => ?_) (fun c_230 => ?_)
              · -- eq taken
                refine lv_aload_n hx hb dL_isTold_245 rfl (lv_at hl 2 rfl) ?_
                refine lv_iload hx hb dL_isTold_246 (lv_at hl 8 rfl) ?_
                refine x_ild hx hb hW 44 0 (LA_44 LA_x) (8 * t + k) rfl (by omega) (by omega) (v := nI (cpv σ (8 * t + k))) (rfl) dL_isTold_248 ?_
                have b_248 := LI.cp hI (t := t) (k := k) (by omega) (by omega)
                refine lv_iconst (v := nI (1)) hx hb dL_isTold_249 (by decide +kernel) ?_
                refine lv_iload hx hb dL_isTold_250 (lv_at hl 10 rfl) ?_
                refine lv_ishl hx hb dL_isTold_252 ?_
                rw [bt_shl (b := 25) (by omega)]
                refine lv_iconst (v := -1) hx hb dL_isTold_253 (by decide +kernel) ?_
                refine lv_ixor hx hb dL_isTold_254 ?_
                rw [bt_m1, nI_xor]
                refine lv_iand hx hb dL_isTold_255 ?_
                rw [nI_and]
                refine x_ist hx hb hW 44 0 (LA_44 LA_x) (8 * t + k) rfl (by omega) (by omega) dL_isTold_256 fun H locs hW => ?_
                have hW : xW D sa A s xa (xGs (LGf D (pf σ) (hf σ) (wf σ) (tf σ) (upd (cf σ) (8 * t + k) (nI ((cpv σ (8 * t + k)) &&& ((2 ^ 25) ^^^ 4294967295)))) (mf σ)) D xa σ τ) H locs := hW.eqG (LG_up (by omega) (LG_c _)).symm
                refine lv_iload hx hb dL_isTold_257 (lv_at hl 4 rfl) ?_
                refine lv_iconst (v := nI (1)) hx hb dL_isTold_259 (by decide +kernel) ?_
                refine lv_icmp_ne (tgt := 276) hx hb dL_isTold_260 (by decide) (fun c_260 => ?_) (fun c_260 => ?_)
                · -- ne taken
                  have c_260 : ¬ (way = 1) := fun h_ => c_260 ((x_eqN (a := way) (b := 1) (by omega) (by omega)).mpr h_)
                  refine lv_aload_n hx hb dL_isTold_276 rfl (lv_at hl 0 rfl) ?_
                  refine lv_iload hx hb dL_isTold_277 (lv_at hl 6 rfl) ?_
                  refine lv_iload hx hb dL_isTold_279 (lv_at hl 7 rfl) ?_
                  refine lv_iload hx hb dL_isTold_281 (lv_at hl 9 rfl) ?_
                  refine yg_i (k := 0) (i := 0) (As := [.int (nI (t)), .int (nI (k)), .int (nI (0))]) (rest := []) ⟨hx, hb, hml, hown, hts⟩ (c_X4_settle l hst0 D sa xa (LGf D (pf σ) (hf σ) (wf σ) (tf σ) (upd (cf σ) (8 * t + k) (nI ((cpv σ (8 * t + k)) &&& ((2 ^ 25) ^^^ 4294967295)))) (mf σ)) σ τ hg hL hT (nI (t)) (nI (k)) 0 (by decide)) (fun E => pxk_no (pS_of (i := t) (k := k) (by omega) (by omega) (by omega) (by omega)) trivial trivial) (cwV 3 hts gL_isTold_X4_settle rfl rfl rfl (by decide +kernel) ⟨Nat.le_of_ble_eq_true rfl, Nat.le_of_ble_eq_true rfl⟩) hW (xg_x (LGf D (pf σ) (hf σ) (wf σ) (tf σ) (upd (cf σ) (8 * t + k) (nI ((cpv σ (8 * t + k)) &&& ((2 ^ 25) ^^^ 4294967295)))) (mf σ)) D xa σ τ) rfl rfl rfl rfl hl.1 (Nat.le_of_ble_eq_true rfl) dL_isTold_283 ⟨Nat.le_of_ble_eq_true rfl, Nat.le_of_ble_eq_true rfl⟩ (fun r_283 xa1 G1 H locs hp hW => ?_)
                  obtain ⟨hgk, xb1, τ1, hag1, hu, hL1, hT1, hans⟩ := hp
                  have hu2 : G1 = _ := congrArg Prod.snd hu
                  subst hu2
                  have hu1 : xb1 = xa1 := (congrArg Prod.fst hu).symm
                  subst hu1
                  have hl : lv_has ls 12 [(0, .ref (xb1 0 0)), (1, .ref (xb1 43 0)), (2, .ref (xb1 44 0)), (3, .ref (xb1 45 0)), (4, .int (nI (way))), (5, .int (nI (z))), (6, .int (nI (t))), (7, .int (nI (k))), (8, .int (nI (8 * t + k))), (9, .int (nI (0))), (10, .int (nI (25))), (11, .int (nI (1)))] := by rw [hag1 0 0 (by omega), hag1 43 0 (by omega), hag1 44 0 (by omega), hag1 45 0 (by omega)]; exact hl
                  have hI1 : LI (t_settle σ (nI (t)) (nI (k)) 0 0) := LI_settle hI (by decide) hgk
                  rw [xn_nI (n := t) (by omega), xn_nI (n := k) (by omega)] at hans
                  have e_283 := hans.uniq (tv.one (P := σ 18 (8 * t + k) = 1) (by omega)) Iff.rfl
                  subst e_283
                  show W _ _ _ _ _ _ _ _ _ _ _ _ _ _ _ (F0 _ 286 ls [.int (nI (1))])
                  refine lv_iload hx hb dL_isTold_286 (lv_at hl 11 rfl) ?_
                  refine lv_icmp_ne (tgt := 295) hx hb dL_isTold_288 (by decide) (fun c_288 => ?_) (fun c_288 => ?_)
                  · -- ne taken
                    exact absurd (by decide) c_288
                  · -- ne not
                    refine lv_iconst (v := nI (1)) hx hb dL_isTold_291 (by decide +kernel) ?_
                    refine lv_goto (tgt := 296) hx hb dL_isTold_292 (by decide) ?_
                    have hW : xW D sa A s xb1 (xGs (LG D (t_settle σ (nI (t)) (nI (k)) 0 0)) D xb1 (t_settle σ (nI (t)) (nI (k)) 0 0) τ1) H locs := hW.eqG (congrArg (fun g => xGs g D xb1 (t_settle σ (nI (t)) (nI (k)) 0 0) τ1) (LG_settle0 (D := D) b_t (by omega) hcp)).symm
                    exact xe_i hx hb hr rfl hlocks hW ⟨_, hI1, xb1, τ1, hag1, rfl, hL1, hT1, rfl⟩ (Nat.le_of_ble_eq_true rfl) (Nat.le_of_ble_eq_true rfl) dL_isTold_296
                · -- ne not
                  have c_260 := (x_eqN (a := way) (b := 1) (by omega) (by omega)).mp c_260
                  exact absurd c_260 (by omega)
              · -- eq not
                exact absurd (by decide) c_230
          · -- ne not
            have c_188 := (x_eqN (a := way) (b := 1) (by omega) (by omega)).mp c_188
            exact absurd c_188 (by omega)
        · -- ne not
          have c_173 := (x_eqN (a := way) (b := 1) (by omega) (by omega)).mp c_173
          refine lv_bipush (v := nI (24)) hx hb dL_isTold_176 (by decide +kernel) ?_
          refine lv_goto (tgt := 183) hx hb dL_isTold_178 (by decide) ?_
          refine lv_istore (lv' := [(10, .int (nI (24))), (0, .ref (xa 0 0)), (1, .ref (xa 43 0)), (2, .ref (xa 44 0)), (3, .ref (xa 45 0)), (4, .int (nI (way))), (5, .int (nI (z))), (6, .int (nI (t))), (7, .int (nI (k))), (8, .int (nI (8 * t + k))), (9, .int (nI (0)))]) hx hb dL_isTold_183 hl (by decide) rfl (fun ls hl => ?_)
          have hl : lv_has ls 12 [(0, .ref (xa 0 0)), (1, .ref (xa 43 0)), (2, .ref (xa 44 0)), (3, .ref (xa 45 0)), (4, .int (nI (way))), (5, .int (nI (z))), (6, .int (nI (t))), (7, .int (nI (k))), (8, .int (nI (8 * t + k))), (9, .int (nI (0))), (10, .int (nI (24)))] := lv_sub hl [1, 2, 3, 4, 5, 6, 7, 8, 9, 10, 0] rfl
          refine lv_iload hx hb dL_isTold_185 (lv_at hl 4 rfl) ?_
          refine lv_iconst (v := nI (1)) hx hb dL_isTold_187 (by decide +kernel) ?_
          refine lv_icmp_ne (tgt := 205) hx hb dL_isTold_188 (by decide) (fun c_188 => ?_) (fun c_188 => ?_)
          · -- ne taken
            have c_188 : ¬ (way = 1) := fun h_ => c_188 ((x_eqN (a := way) (b := 1) (by omega) (by omega)).mpr h_)
            exact absurd c_188 (by omega)
          · -- ne not
            have c_188 := (x_eqN (a := way) (b := 1) (by omega) (by omega)).mp c_188
            refine lv_aload_n hx hb dL_isTold_191 rfl (lv_at hl 2 rfl) ?_
            refine lv_iload hx hb dL_isTold_192 (lv_at hl 8 rfl) ?_
            refine x_ild hx hb hW 44 0 (LA_44 LA_x) (8 * t + k) rfl (by omega) (by omega) (v := nI (cpv σ (8 * t + k))) (rfl) dL_isTold_194 ?_
            have b_194 := LI.cp hI (t := t) (k := k) (by omega) (by omega)
            refine lv_iconst (v := nI (4)) hx hb dL_isTold_195 (by decide +kernel) ?_
            refine lv_ishr hx hb dL_isTold_196 ?_
            rw [bt_shr (m := cpv σ (8 * t + k)) (b := 4) (cp_lt b_194) (by omega)]
            refine lv_bipush (v := nI (15)) hx hb dL_isTold_197 (by decide +kernel) ?_
            refine lv_iand hx hb dL_isTold_199 ?_
            rw [cp_k b_194]
            have bb_199 := b_194
            unfold cpo at bb_199
            refine lv_if_le (tgt := 205) hx hb dL_isTold_200 (by decide) (fun c_200 => ?_) (fun c_200 => ?_)
            · -- le taken
              have c_200 := Int32.le_iff_toInt_le.mp c_200
              rw [nI_toInt (n := σ 14 (8 * t + k)) (by omega)] at c_200
              rw [x_t0] at c_200
              refine lv_aload_n hx hb dL_isTold_205 rfl (lv_at hl 2 rfl) ?_
              refine lv_iload hx hb dL_isTold_206 (lv_at hl 8 rfl) ?_
              refine x_ild hx hb hW 44 0 (LA_44 LA_x) (8 * t + k) rfl (by omega) (by omega) (v := nI (cpv σ (8 * t + k))) (rfl) dL_isTold_208 ?_
              have b_208 := LI.cp hI (t := t) (k := k) (by omega) (by omega)
              refine lv_iload hx hb dL_isTold_209 (lv_at hl 10 rfl) ?_
              refine lv_ishr hx hb dL_isTold_211 ?_
              rw [bt_shr (m := cpv σ (8 * t + k)) (b := 24) (cp_lt b_208) (by omega)]
              refine lv_iconst (v := nI (1)) hx hb dL_isTold_212 (by decide +kernel) ?_
              refine lv_iand hx hb dL_isTold_213 ?_
              rw [cp_r b_208]
              have bb_213 := b_208
              unfold cpo at bb_213
              refine lv_iconst (v := nI (1)) hx hb dL_isTold_214 (by decide +kernel) ?_
              refine lv_icmp_ne (tgt := 222) hx hb dL_isTold_215 (by decide) (fun c_215 => ?_) (fun c_215 => ?_)
              · -- ne taken
                have c_215 : ¬ (σ 17 (8 * t + k) = 1) := fun h_ => c_215 ((x_eqN (a := σ 17 (8 * t + k)) (b := 1) (by omega) (by omega)).mpr h_)
                refine lv_iconst (v := nI (0)) hx hb dL_isTold_222 (by decide +kernel) ?_
                refine lv_istore (lv' := [(11, .int (nI (0))), (0, .ref (xa 0 0)), (1, .ref (xa 43 0)), (2, .ref (xa 44 0)), (3, .ref (xa 45 0)), (4, .int (nI (way))), (5, .int (nI (z))), (6, .int (nI (t))), (7, .int (nI (k))), (8, .int (nI (8 * t + k))), (9, .int (nI (0))), (10, .int (nI (24)))]) hx hb dL_isTold_223 hl (by decide) rfl (fun ls hl => ?_)
                have hl : lv_has ls 12 [(0, .ref (xa 0 0)), (1, .ref (xa 43 0)), (2, .ref (xa 44 0)), (3, .ref (xa 45 0)), (4, .int (nI (way))), (5, .int (nI (z))), (6, .int (nI (t))), (7, .int (nI (k))), (8, .int (nI (8 * t + k))), (9, .int (nI (0))), (10, .int (nI (24))), (11, .int (nI (0)))] := lv_sub hl [1, 2, 3, 4, 5, 6, 7, 8, 9, 10, 11, 0] rfl
                refine lv_aload_n hx hb dL_isTold_225 rfl (lv_at hl 2 rfl) ?_
                refine lv_iload hx hb dL_isTold_226 (lv_at hl 8 rfl) ?_
                refine lv_iload hx hb dL_isTold_228 (lv_at hl 9 rfl) ?_
                refine lv_if_eq (tgt := 245) hx hb dL_isTold_230 (by decide) (fun c_230 => ?_) (fun c_230 => ?_)
                · -- eq taken
                  refine lv_aload_n hx hb dL_isTold_245 rfl (lv_at hl 2 rfl) ?_
                  refine lv_iload hx hb dL_isTold_246 (lv_at hl 8 rfl) ?_
                  refine x_ild hx hb hW 44 0 (LA_44 LA_x) (8 * t + k) rfl (by omega) (by omega) (v := nI (cpv σ (8 * t + k))) (rfl) dL_isTold_248 ?_
                  have b_248 := LI.cp hI (t := t) (k := k) (by omega) (by omega)
                  refine lv_iconst (v := nI (1)) hx hb dL_isTold_249 (by decide +kernel) ?_
                  refine lv_iload hx hb dL_isTold_250 (lv_at hl 10 rfl) ?_
                  refine lv_ishl hx hb dL_isTold_252 ?_
                  rw [bt_shl (b := 24) (by omega)]
                  refine lv_iconst (v := -1) hx hb dL_isTold_253 (by decide +kernel) ?_
                  refine lv_ixor hx hb dL_isTold_254 ?_
                  rw [bt_m1, nI_xor]
                  refine lv_iand hx hb dL_isTold_255 ?_
                  rw [nI_and]
                  refine x_ist hx hb hW 44 0 (LA_44 LA_x) (8 * t + k) rfl (by omega) (by omega) dL_isTold_256 fun H locs hW => ?_
                  have hW : xW D sa A s xa (xGs (LGf D (pf σ) (hf σ) (wf σ) (tf σ) (upd (cf σ) (8 * t + k) (nI ((cpv σ (8 * t + k)) &&& ((2 ^ 24) ^^^ 4294967295)))) (mf σ)) D xa σ τ) H locs := hW.eqG (LG_up (by omega) (LG_c _)).symm
                  refine lv_iload hx hb dL_isTold_257 (lv_at hl 4 rfl) ?_
                  refine lv_iconst (v := nI (1)) hx hb dL_isTold_259 (by decide +kernel) ?_
                  refine lv_icmp_ne (tgt := 276) hx hb dL_isTold_260 (by decide) (fun c_260 => ?_) (fun c_260 => ?_)
                  · -- ne taken
                    have c_260 : ¬ (way = 1) := fun h_ => c_260 ((x_eqN (a := way) (b := 1) (by omega) (by omega)).mpr h_)
                    exact absurd c_260 (by omega)
                  · -- ne not
                    have c_260 := (x_eqN (a := way) (b := 1) (by omega) (by omega)).mp c_260
                    refine lv_aload_n hx hb dL_isTold_263 rfl (lv_at hl 0 rfl) ?_
                    refine lv_iload hx hb dL_isTold_264 (lv_at hl 6 rfl) ?_
                    refine lv_iload hx hb dL_isTold_266 (lv_at hl 7 rfl) ?_
                    refine lv_iload hx hb dL_isTold_268 (lv_at hl 9 rfl) ?_
                    refine yg_i (k := 0) (i := 0) (As := [.int (nI (t)), .int (nI (k)), .int (nI (0))]) (rest := []) ⟨hx, hb, hml, hown, hts⟩ (c_X4_rebut l hst0 D sa xa (LGf D (pf σ) (hf σ) (wf σ) (tf σ) (upd (cf σ) (8 * t + k) (nI ((cpv σ (8 * t + k)) &&& ((2 ^ 24) ^^^ 4294967295)))) (mf σ)) σ τ hg hL hT (nI (t)) (nI (k)) 0 (by decide)) (fun E => pxk_no (pS_of (i := t) (k := k) (by omega) (by omega) (by omega) (by omega)) (by rw [xn_nI (by omega), xn_nI (by omega)]; omega) trivial) (cwV 3 hts gL_isTold_X4_rebut rfl rfl rfl (by decide +kernel) ⟨Nat.le_of_ble_eq_true rfl, Nat.le_of_ble_eq_true rfl⟩) hW (xg_x (LGf D (pf σ) (hf σ) (wf σ) (tf σ) (upd (cf σ) (8 * t + k) (nI ((cpv σ (8 * t + k)) &&& ((2 ^ 24) ^^^ 4294967295)))) (mf σ)) D xa σ τ) rfl rfl rfl rfl hl.1 (Nat.le_of_ble_eq_true rfl) dL_isTold_270 ⟨Nat.le_of_ble_eq_true rfl, Nat.le_of_ble_eq_true rfl⟩ (fun r_270 xa1 G1 H locs hp hW => ?_)
                    obtain ⟨hgk, xb1, τ1, hag1, hu, hL1, hT1, hans⟩ := hp
                    have hu2 : G1 = _ := congrArg Prod.snd hu
                    subst hu2
                    have hu1 : xb1 = xa1 := (congrArg Prod.fst hu).symm
                    subst hu1
                    have hl : lv_has ls 12 [(0, .ref (xb1 0 0)), (1, .ref (xb1 43 0)), (2, .ref (xb1 44 0)), (3, .ref (xb1 45 0)), (4, .int (nI (way))), (5, .int (nI (z))), (6, .int (nI (t))), (7, .int (nI (k))), (8, .int (nI (8 * t + k))), (9, .int (nI (0))), (10, .int (nI (24))), (11, .int (nI (0)))] := by rw [hag1 0 0 (by omega), hag1 43 0 (by omega), hag1 44 0 (by omega), hag1 45 0 (by omega)]; exact hl
                    have hI1 : LI (t_rebut σ (nI (t)) (nI (k)) 0 0) := LI_rebut hI (by decide) hgk
                    rw [xn_nI (n := t) (by omega), xn_nI (n := k) (by omega)] at hans
                    have e_270 := hans.uniq (tv.zero (P := σ 17 (8 * t + k) = 1) (by omega)) Iff.rfl
                    subst e_270
                    show W _ _ _ _ _ _ _ _ _ _ _ _ _ _ _ (F0 _ 273 ls [.int (nI (0))])
                    refine lv_goto (tgt := 286) hx hb dL_isTold_273 (by decide) ?_
                    refine lv_iload hx hb dL_isTold_286 (lv_at hl 11 rfl) ?_
                    refine lv_icmp_ne (tgt := 295) hx hb dL_isTold_288 (by decide) (fun c_288 => ?_) (fun c_288 => ?_)
                    · -- ne taken
                      exact absurd (by decide) c_288
                    · -- ne not
                      refine lv_iconst (v := nI (1)) hx hb dL_isTold_291 (by decide +kernel) ?_
                      refine lv_goto (tgt := 296) hx hb dL_isTold_292 (by decide) ?_
                      have hW : xW D sa A s xb1 (xGs (LG D (t_rebut σ (nI (t)) (nI (k)) 0 0)) D xb1 (t_rebut σ (nI (t)) (nI (k)) 0 0) τ1) H locs := hW.eqG (congrArg (fun g => xGs g D xb1 (t_rebut σ (nI (t)) (nI (k)) 0 0) τ1) (LG_rebut0 (D := D) b_t (by omega) hcp)).symm
                      exact xe_i hx hb hr rfl hlocks hW ⟨_, hI1, xb1, τ1, hag1, rfl, hL1, hT1, rfl⟩ (Nat.le_of_ble_eq_true rfl) (Nat.le_of_ble_eq_true rfl) dL_isTold_296
                · -- eq not
                  exact absurd (by decide) c_230
              · -- ne not
                have c_215 := (x_eqN (a := σ 17 (8 * t + k)) (b := 1) (by omega) (by omega)).mp c_215
                refine lv_iconst (v := nI (1)) hx hb dL_isTold_218 (by decide +kernel) ?_
                refine lv_goto (tgt := 223) hx hb dL_isTold_219 (by decide) ?_
                refine lv_istore (lv' := [(11, .int (nI (1))), (0, .ref (xa 0 0)), (1, .ref (xa 43 0)), (2, .ref (xa 44 0)), (3, .ref (xa 45 0)), (4, .int (nI (way))), (5, .int (nI (z))), (6, .int (nI (t))), (7, .int (nI (k))), (8, .int (nI (8 * t + k))), (9, .int (nI (0))), (10, .int (nI (24)))]) hx hb dL_isTold_223 hl (by decide) rfl (fun ls hl => ?_)
                have hl : lv_has ls 12 [(0, .ref (xa 0 0)), (1, .ref (xa 43 0)), (2, .ref (xa 44 0)), (3, .ref (xa 45 0)), (4, .int (nI (way))), (5, .int (nI (z))), (6, .int (nI (t))), (7, .int (nI (k))), (8, .int (nI (8 * t + k))), (9, .int (nI (0))), (10, .int (nI (24))), (11, .int (nI (1)))] := lv_sub hl [1, 2, 3, 4, 5, 6, 7, 8, 9, 10, 11, 0] rfl
                refine lv_aload_n hx hb dL_isTold_225 rfl (lv_at hl 2 rfl) ?_
                refine lv_iload hx hb dL_isTold_226 (lv_at hl 8 rfl) ?_
                refine lv_iload hx hb dL_isTold_228 (lv_at hl 9 rfl) ?_
                refine lv_if_eq (tgt := 245) hx hb dL_isTold_230 (by decide) (fun c_230 => ?_) (fun c_230 => ?_)
                · -- eq taken
                  refine lv_aload_n hx hb dL_isTold_245 rfl (lv_at hl 2 rfl) ?_
                  refine lv_iload hx hb dL_isTold_246 (lv_at hl 8 rfl) ?_
                  refine x_ild hx hb hW 44 0 (LA_44 LA_x) (8 * t + k) rfl (by omega) (by omega) (v := nI (cpv σ (8 * t + k))) (rfl) dL_isTold_248 ?_
                  have b_248 := LI.cp hI (t := t) (k := k) (by omega) (by omega)
                  refine lv_iconst (v := nI (1)) hx hb dL_isTold_249 (by decide +kernel) ?_
                  refine lv_iload hx hb dL_isTold_250 (lv_at hl 10 rfl) ?_
                  refine lv_ishl hx hb dL_isTold_252 ?_
                  rw [bt_shl (b := 24) (by omega)]
                  refine lv_iconst (v := -1) hx hb dL_isTold_253 (by decide +kernel) ?_
                  refine lv_ixor hx hb dL_isTold_254 ?_
                  rw [bt_m1, nI_xor]
                  refine lv_iand hx hb dL_isTold_255 ?_
                  rw [nI_and]
                  refine x_ist hx hb hW 44 0 (LA_44 LA_x) (8 * t + k) rfl (by omega) (by omega) dL_isTold_256 fun H locs hW => ?_
                  have hW : xW D sa A s xa (xGs (LGf D (pf σ) (hf σ) (wf σ) (tf σ) (upd (cf σ) (8 * t + k) (nI ((cpv σ (8 * t + k)) &&& ((2 ^ 24) ^^^ 4294967295)))) (mf σ)) D xa σ τ) H locs := hW.eqG (LG_up (by omega) (LG_c _)).symm
                  refine lv_iload hx hb dL_isTold_257 (lv_at hl 4 rfl) ?_
                  refine lv_iconst (v := nI (1)) hx hb dL_isTold_259 (by decide +kernel) ?_
                  refine lv_icmp_ne (tgt := 276) hx hb dL_isTold_260 (by decide) (fun c_260 => ?_) (fun c_260 => ?_)
                  · -- ne taken
                    have c_260 : ¬ (way = 1) := fun h_ => c_260 ((x_eqN (a := way) (b := 1) (by omega) (by omega)).mpr h_)
                    exact absurd c_260 (by omega)
                  · -- ne not
                    have c_260 := (x_eqN (a := way) (b := 1) (by omega) (by omega)).mp c_260
                    refine lv_aload_n hx hb dL_isTold_263 rfl (lv_at hl 0 rfl) ?_
                    refine lv_iload hx hb dL_isTold_264 (lv_at hl 6 rfl) ?_
                    refine lv_iload hx hb dL_isTold_266 (lv_at hl 7 rfl) ?_
                    refine lv_iload hx hb dL_isTold_268 (lv_at hl 9 rfl) ?_
                    refine yg_i (k := 0) (i := 0) (As := [.int (nI (t)), .int (nI (k)), .int (nI (0))]) (rest := []) ⟨hx, hb, hml, hown, hts⟩ (c_X4_rebut l hst0 D sa xa (LGf D (pf σ) (hf σ) (wf σ) (tf σ) (upd (cf σ) (8 * t + k) (nI ((cpv σ (8 * t + k)) &&& ((2 ^ 24) ^^^ 4294967295)))) (mf σ)) σ τ hg hL hT (nI (t)) (nI (k)) 0 (by decide)) (fun E => pxk_no (pS_of (i := t) (k := k) (by omega) (by omega) (by omega) (by omega)) (by rw [xn_nI (by omega), xn_nI (by omega)]; omega) trivial) (cwV 3 hts gL_isTold_X4_rebut rfl rfl rfl (by decide +kernel) ⟨Nat.le_of_ble_eq_true rfl, Nat.le_of_ble_eq_true rfl⟩) hW (xg_x (LGf D (pf σ) (hf σ) (wf σ) (tf σ) (upd (cf σ) (8 * t + k) (nI ((cpv σ (8 * t + k)) &&& ((2 ^ 24) ^^^ 4294967295)))) (mf σ)) D xa σ τ) rfl rfl rfl rfl hl.1 (Nat.le_of_ble_eq_true rfl) dL_isTold_270 ⟨Nat.le_of_ble_eq_true rfl, Nat.le_of_ble_eq_true rfl⟩ (fun r_270 xa1 G1 H locs hp hW => ?_)
                    obtain ⟨hgk, xb1, τ1, hag1, hu, hL1, hT1, hans⟩ := hp
                    have hu2 : G1 = _ := congrArg Prod.snd hu
                    subst hu2
                    have hu1 : xb1 = xa1 := (congrArg Prod.fst hu).symm
                    subst hu1
                    have hl : lv_has ls 12 [(0, .ref (xb1 0 0)), (1, .ref (xb1 43 0)), (2, .ref (xb1 44 0)), (3, .ref (xb1 45 0)), (4, .int (nI (way))), (5, .int (nI (z))), (6, .int (nI (t))), (7, .int (nI (k))), (8, .int (nI (8 * t + k))), (9, .int (nI (0))), (10, .int (nI (24))), (11, .int (nI (1)))] := by rw [hag1 0 0 (by omega), hag1 43 0 (by omega), hag1 44 0 (by omega), hag1 45 0 (by omega)]; exact hl
                    have hI1 : LI (t_rebut σ (nI (t)) (nI (k)) 0 0) := LI_rebut hI (by decide) hgk
                    rw [xn_nI (n := t) (by omega), xn_nI (n := k) (by omega)] at hans
                    have e_270 := hans.uniq (tv.one (P := σ 17 (8 * t + k) = 1) (by omega)) Iff.rfl
                    subst e_270
                    show W _ _ _ _ _ _ _ _ _ _ _ _ _ _ _ (F0 _ 273 ls [.int (nI (1))])
                    refine lv_goto (tgt := 286) hx hb dL_isTold_273 (by decide) ?_
                    refine lv_iload hx hb dL_isTold_286 (lv_at hl 11 rfl) ?_
                    refine lv_icmp_ne (tgt := 295) hx hb dL_isTold_288 (by decide) (fun c_288 => ?_) (fun c_288 => ?_)
                    · -- ne taken
                      exact absurd (by decide) c_288
                    · -- ne not
                      refine lv_iconst (v := nI (1)) hx hb dL_isTold_291 (by decide +kernel) ?_
                      refine lv_goto (tgt := 296) hx hb dL_isTold_292 (by decide) ?_
                      have hW : xW D sa A s xb1 (xGs (LG D (t_rebut σ (nI (t)) (nI (k)) 0 0)) D xb1 (t_rebut σ (nI (t)) (nI (k)) 0 0) τ1) H locs := hW.eqG (congrArg (fun g => xGs g D xb1 (t_rebut σ (nI (t)) (nI (k)) 0 0) τ1) (LG_rebut0 (D := D) b_t (by omega) hcp)).symm
                      exact xe_i hx hb hr rfl hlocks hW ⟨_, hI1, xb1, τ1, hag1, rfl, hL1, hT1, rfl⟩ (Nat.le_of_ble_eq_true rfl) (Nat.le_of_ble_eq_true rfl) dL_isTold_296
                · -- eq not
                  exact absurd (by decide) c_230
            · -- le not
              have c_200 : ¬ ((nI (σ 14 (8 * t + k))).toInt ≤ ((0 : Int32)).toInt) := fun h => c_200 (Int32.le_iff_toInt_le.mpr h)
              rw [nI_toInt (n := σ 14 (8 * t + k)) (by omega)] at c_200
              rw [x_t0] at c_200
              refine lv_iconst (v := nI (1)) hx hb dL_isTold_203 (by decide +kernel) ?_
              exact xe_i hx hb hr rfl hlocks hW ⟨σ, hI, xa, τ, fun _ _ _ => rfl, rfl, hL, hT, rfl⟩ (Nat.le_of_ble_eq_true rfl) (Nat.le_of_ble_eq_true rfl) dL_isTold_204
      · -- le not
        have c_160 : ¬ ((nI ((z / 24) % 3)).toInt ≤ ((0 : Int32)).toInt) := fun h => c_160 (Int32.le_iff_toInt_le.mpr h)
        rw [nI_toInt (n := (z / 24) % 3) (by omega)] at c_160
        rw [x_t0] at c_160
        refine lv_iconst (v := nI (1)) hx hb dL_isTold_163 (by decide +kernel) ?_
        refine lv_goto (tgt := 168) hx hb dL_isTold_164 (by decide) ?_
        refine lv_istore (lv' := [(9, .int (nI (1))), (0, .ref (xa 0 0)), (1, .ref (xa 43 0)), (2, .ref (xa 44 0)), (3, .ref (xa 45 0)), (4, .int (nI (way))), (5, .int (nI (z))), (6, .int (nI (t))), (7, .int (nI (k))), (8, .int (nI (8 * t + k)))]) hx hb dL_isTold_168 hl (by decide) rfl (fun ls hl => ?_)
        have hl : lv_has ls 12 [(0, .ref (xa 0 0)), (1, .ref (xa 43 0)), (2, .ref (xa 44 0)), (3, .ref (xa 45 0)), (4, .int (nI (way))), (5, .int (nI (z))), (6, .int (nI (t))), (7, .int (nI (k))), (8, .int (nI (8 * t + k))), (9, .int (nI (1)))] := lv_sub hl [1, 2, 3, 4, 5, 6, 7, 8, 9, 0] rfl
        refine lv_iload hx hb dL_isTold_170 (lv_at hl 4 rfl) ?_
        refine lv_iconst (v := nI (1)) hx hb dL_isTold_172 (by decide +kernel) ?_
        refine lv_icmp_ne (tgt := 181) hx hb dL_isTold_173 (by decide) (fun c_173 => ?_) (fun c_173 => ?_)
        · -- ne taken
          have c_173 : ¬ (way = 1) := fun h_ => c_173 ((x_eqN (a := way) (b := 1) (by omega) (by omega)).mpr h_)
          refine lv_bipush (v := nI (25)) hx hb dL_isTold_181 (by decide +kernel) ?_
          refine lv_istore (lv' := [(10, .int (nI (25))), (0, .ref (xa 0 0)), (1, .ref (xa 43 0)), (2, .ref (xa 44 0)), (3, .ref (xa 45 0)), (4, .int (nI (way))), (5, .int (nI (z))), (6, .int (nI (t))), (7, .int (nI (k))), (8, .int (nI (8 * t + k))), (9, .int (nI (1)))]) hx hb dL_isTold_183 hl (by decide) rfl (fun ls hl => ?_)
          have hl : lv_has ls 12 [(0, .ref (xa 0 0)), (1, .ref (xa 43 0)), (2, .ref (xa 44 0)), (3, .ref (xa 45 0)), (4, .int (nI (way))), (5, .int (nI (z))), (6, .int (nI (t))), (7, .int (nI (k))), (8, .int (nI (8 * t + k))), (9, .int (nI (1))), (10, .int (nI (25)))] := lv_sub hl [1, 2, 3, 4, 5, 6, 7, 8, 9, 10, 0] rfl
          refine lv_iload hx hb dL_isTold_185 (lv_at hl 4 rfl) ?_
          refine lv_iconst (v := nI (1)) hx hb dL_isTold_187 (by decide +kernel) ?_
          refine lv_icmp_ne (tgt := 205) hx hb dL_isTold_188 (by decide) (fun c_188 => ?_) (fun c_188 => ?_)
          · -- ne taken
            have c_188 : ¬ (way = 1) := fun h_ => c_188 ((x_eqN (a := way) (b := 1) (by omega) (by omega)).mpr h_)
            refine lv_aload_n hx hb dL_isTold_205 rfl (lv_at hl 2 rfl) ?_
            refine lv_iload hx hb dL_isTold_206 (lv_at hl 8 rfl) ?_
            refine x_ild hx hb hW 44 0 (LA_44 LA_x) (8 * t + k) rfl (by omega) (by omega) (v := nI (cpv σ (8 * t + k))) (rfl) dL_isTold_208 ?_
            have b_208 := LI.cp hI (t := t) (k := k) (by omega) (by omega)
            refine lv_iload hx hb dL_isTold_209 (lv_at hl 10 rfl) ?_
            refine lv_ishr hx hb dL_isTold_211 ?_
            rw [bt_shr (m := cpv σ (8 * t + k)) (b := 25) (cp_lt b_208) (by omega)]
            refine lv_iconst (v := nI (1)) hx hb dL_isTold_212 (by decide +kernel) ?_
            refine lv_iand hx hb dL_isTold_213 ?_
            rw [cp_s b_208]
            have bb_213 := b_208
            unfold cpo at bb_213
            refine lv_iconst (v := nI (1)) hx hb dL_isTold_214 (by decide +kernel) ?_
            refine lv_icmp_ne (tgt := 222) hx hb dL_isTold_215 (by decide) (fun c_215 => ?_) (fun c_215 => ?_)
            · -- ne taken
              have c_215 : ¬ (σ 18 (8 * t + k) = 1) := fun h_ => c_215 ((x_eqN (a := σ 18 (8 * t + k)) (b := 1) (by omega) (by omega)).mpr h_)
              refine lv_iconst (v := nI (0)) hx hb dL_isTold_222 (by decide +kernel) ?_
              refine lv_istore (lv' := [(11, .int (nI (0))), (0, .ref (xa 0 0)), (1, .ref (xa 43 0)), (2, .ref (xa 44 0)), (3, .ref (xa 45 0)), (4, .int (nI (way))), (5, .int (nI (z))), (6, .int (nI (t))), (7, .int (nI (k))), (8, .int (nI (8 * t + k))), (9, .int (nI (1))), (10, .int (nI (25)))]) hx hb dL_isTold_223 hl (by decide) rfl (fun ls hl => ?_)
              have hl : lv_has ls 12 [(0, .ref (xa 0 0)), (1, .ref (xa 43 0)), (2, .ref (xa 44 0)), (3, .ref (xa 45 0)), (4, .int (nI (way))), (5, .int (nI (z))), (6, .int (nI (t))), (7, .int (nI (k))), (8, .int (nI (8 * t + k))), (9, .int (nI (1))), (10, .int (nI (25))), (11, .int (nI (0)))] := lv_sub hl [1, 2, 3, 4, 5, 6, 7, 8, 9, 10, 11, 0] rfl
              refine lv_aload_n hx hb dL_isTold_225 rfl (lv_at hl 2 rfl) ?_
              refine lv_iload hx hb dL_isTold_226 (lv_at hl 8 rfl) ?_
              refine lv_iload hx hb dL_isTold_228 (lv_at hl 9 rfl) ?_
              refine lv_if_eq (tgt := 245) hx hb dL_isTold_230 (by decide) (fun c_230 => ?_) (fun c_230 => ?_)
              · -- eq taken
                exact absurd c_230 (by decide)
              · -- eq not
                refine lv_aload_n hx hb dL_isTold_233 rfl (lv_at hl 2 rfl) ?_
                refine lv_iload hx hb dL_isTold_234 (lv_at hl 8 rfl) ?_
                refine x_ild hx hb hW 44 0 (LA_44 LA_x) (8 * t + k) rfl (by omega) (by omega) (v := nI (cpv σ (8 * t + k))) (rfl) dL_isTold_236 ?_
                have b_236 := LI.cp hI (t := t) (k := k) (by omega) (by omega)
                refine lv_iconst (v := nI (1)) hx hb dL_isTold_237 (by decide +kernel) ?_
                refine lv_iload hx hb dL_isTold_238 (lv_at hl 10 rfl) ?_
                refine lv_ishl hx hb dL_isTold_240 ?_
                rw [bt_shl (b := 25) (by omega)]
                refine lv_ior hx hb dL_isTold_241 ?_
                rw [nI_or]
                refine lv_goto (tgt := 256) hx hb dL_isTold_242 (by decide) ?_
                refine x_ist hx hb hW 44 0 (LA_44 LA_x) (8 * t + k) rfl (by omega) (by omega) dL_isTold_256 fun H locs hW => ?_
                have hW : xW D sa A s xa (xGs (LGf D (pf σ) (hf σ) (wf σ) (tf σ) (upd (cf σ) (8 * t + k) (nI ((cpv σ (8 * t + k)) ||| (2 ^ 25)))) (mf σ)) D xa σ τ) H locs := hW.eqG (LG_up (by omega) (LG_c _)).symm
                refine lv_iload hx hb dL_isTold_257 (lv_at hl 4 rfl) ?_
                refine lv_iconst (v := nI (1)) hx hb dL_isTold_259 (by decide +kernel) ?_
                refine lv_icmp_ne (tgt := 276) hx hb dL_isTold_260 (by decide) (fun c_260 => ?_) (fun c_260 => ?_)
                · -- ne taken
                  have c_260 : ¬ (way = 1) := fun h_ => c_260 ((x_eqN (a := way) (b := 1) (by omega) (by omega)).mpr h_)
                  refine lv_aload_n hx hb dL_isTold_276 rfl (lv_at hl 0 rfl) ?_
                  refine lv_iload hx hb dL_isTold_277 (lv_at hl 6 rfl) ?_
                  refine lv_iload hx hb dL_isTold_279 (lv_at hl 7 rfl) ?_
                  refine lv_iload hx hb dL_isTold_281 (lv_at hl 9 rfl) ?_
                  refine yg_i (k := 0) (i := 0) (As := [.int (nI (t)), .int (nI (k)), .int (nI (1))]) (rest := []) ⟨hx, hb, hml, hown, hts⟩ (c_X4_settle l hst0 D sa xa (LGf D (pf σ) (hf σ) (wf σ) (tf σ) (upd (cf σ) (8 * t + k) (nI ((cpv σ (8 * t + k)) ||| (2 ^ 25)))) (mf σ)) σ τ hg hL hT (nI (t)) (nI (k)) 1 (by decide)) (fun E => pxk_no (pS_of (i := t) (k := k) (by omega) (by omega) (by omega) (by omega)) trivial trivial) (cwV 3 hts gL_isTold_X4_settle rfl rfl rfl (by decide +kernel) ⟨Nat.le_of_ble_eq_true rfl, Nat.le_of_ble_eq_true rfl⟩) hW (xg_x (LGf D (pf σ) (hf σ) (wf σ) (tf σ) (upd (cf σ) (8 * t + k) (nI ((cpv σ (8 * t + k)) ||| (2 ^ 25)))) (mf σ)) D xa σ τ) rfl rfl rfl rfl hl.1 (Nat.le_of_ble_eq_true rfl) dL_isTold_283 ⟨Nat.le_of_ble_eq_true rfl, Nat.le_of_ble_eq_true rfl⟩ (fun r_283 xa1 G1 H locs hp hW => ?_)
                  obtain ⟨hgk, xb1, τ1, hag1, hu, hL1, hT1, hans⟩ := hp
                  have hu2 : G1 = _ := congrArg Prod.snd hu
                  subst hu2
                  have hu1 : xb1 = xa1 := (congrArg Prod.fst hu).symm
                  subst hu1
                  have hl : lv_has ls 12 [(0, .ref (xb1 0 0)), (1, .ref (xb1 43 0)), (2, .ref (xb1 44 0)), (3, .ref (xb1 45 0)), (4, .int (nI (way))), (5, .int (nI (z))), (6, .int (nI (t))), (7, .int (nI (k))), (8, .int (nI (8 * t + k))), (9, .int (nI (1))), (10, .int (nI (25))), (11, .int (nI (0)))] := by rw [hag1 0 0 (by omega), hag1 43 0 (by omega), hag1 44 0 (by omega), hag1 45 0 (by omega)]; exact hl
                  have hI1 : LI (t_settle σ (nI (t)) (nI (k)) 1 0) := LI_settle hI (by decide) hgk
                  rw [xn_nI (n := t) (by omega), xn_nI (n := k) (by omega)] at hans
                  have e_283 := hans.uniq (tv.zero (P := σ 18 (8 * t + k) = 1) (by omega)) Iff.rfl
                  subst e_283
                  show W _ _ _ _ _ _ _ _ _ _ _ _ _ _ _ (F0 _ 286 ls [.int (nI (0))])
                  refine lv_iload hx hb dL_isTold_286 (lv_at hl 11 rfl) ?_
                  refine lv_icmp_ne (tgt := 295) hx hb dL_isTold_288 (by decide) (fun c_288 => ?_) (fun c_288 => ?_)
                  · -- ne taken
                    exact absurd (by decide) c_288
                  · -- ne not
                    refine lv_iconst (v := nI (1)) hx hb dL_isTold_291 (by decide +kernel) ?_
                    refine lv_goto (tgt := 296) hx hb dL_isTold_292 (by decide) ?_
                    have hW : xW D sa A s xb1 (xGs (LG D (t_settle σ (nI (t)) (nI (k)) 1 0)) D xb1 (t_settle σ (nI (t)) (nI (k)) 1 0) τ1) H locs := hW.eqG (congrArg (fun g => xGs g D xb1 (t_settle σ (nI (t)) (nI (k)) 1 0) τ1) (LG_settle1 (D := D) b_t (by omega) hcp)).symm
                    exact xe_i hx hb hr rfl hlocks hW ⟨_, hI1, xb1, τ1, hag1, rfl, hL1, hT1, rfl⟩ (Nat.le_of_ble_eq_true rfl) (Nat.le_of_ble_eq_true rfl) dL_isTold_296
                · -- ne not
                  have c_260 := (x_eqN (a := way) (b := 1) (by omega) (by omega)).mp c_260
                  exact absurd c_260 (by omega)
            · -- ne not
              have c_215 := (x_eqN (a := σ 18 (8 * t + k)) (b := 1) (by omega) (by omega)).mp c_215
              refine lv_iconst (v := nI (1)) hx hb dL_isTold_218 (by decide +kernel) ?_
              refine lv_goto (tgt := 223) hx hb dL_isTold_219 (by decide) ?_
              refine lv_istore (lv' := [(11, .int (nI (1))), (0, .ref (xa 0 0)), (1, .ref (xa 43 0)), (2, .ref (xa 44 0)), (3, .ref (xa 45 0)), (4, .int (nI (way))), (5, .int (nI (z))), (6, .int (nI (t))), (7, .int (nI (k))), (8, .int (nI (8 * t + k))), (9, .int (nI (1))), (10, .int (nI (25)))]) hx hb dL_isTold_223 hl (by decide) rfl (fun ls hl => ?_)
              have hl : lv_has ls 12 [(0, .ref (xa 0 0)), (1, .ref (xa 43 0)), (2, .ref (xa 44 0)), (3, .ref (xa 45 0)), (4, .int (nI (way))), (5, .int (nI (z))), (6, .int (nI (t))), (7, .int (nI (k))), (8, .int (nI (8 * t + k))), (9, .int (nI (1))), (10, .int (nI (25))), (11, .int (nI (1)))] := lv_sub hl [1, 2, 3, 4, 5, 6, 7, 8, 9, 10, 11, 0] rfl
              refine lv_aload_n hx hb dL_isTold_225 rfl (lv_at hl 2 rfl) ?_
              refine lv_iload hx hb dL_isTold_226 (lv_at hl 8 rfl) ?_
              refine lv_iload hx hb dL_isTold_228 (lv_at hl 9 rfl) ?_
              refine lv_if_eq (tgt := 245) hx hb dL_isTold_230 (by decide) (fun c_230 => ?_) (fun c_230 => ?_)
              · -- eq taken
                exact absurd c_230 (by decide)
              · -- eq not
                refine lv_aload_n hx hb dL_isTold_233 rfl (lv_at hl 2 rfl) ?_
                refine lv_iload hx hb dL_isTold_234 (lv_at hl 8 rfl) ?_
                refine x_ild hx hb hW 44 0 (LA_44 LA_x) (8 * t + k) rfl (by omega) (by omega) (v := nI (cpv σ (8 * t + k))) (rfl) dL_isTold_236 ?_
                have b_236 := LI.cp hI (t := t) (k := k) (by omega) (by omega)
                refine lv_iconst (v := nI (1)) hx hb dL_isTold_237 (by decide +kernel) ?_
                refine lv_iload hx hb dL_isTold_238 (lv_at hl 10 rfl) ?_
                refine lv_ishl hx hb dL_isTold_240 ?_
                rw [bt_shl (b := 25) (by omega)]
                refine lv_ior hx hb dL_isTold_241 ?_
                rw [nI_or]
                refine lv_goto (tgt := 256) hx hb dL_isTold_242 (by decide) ?_
                refine x_ist hx hb hW 44 0 (LA_44 LA_x) (8 * t + k) rfl (by omega) (by omega) dL_isTold_256 fun H locs hW => ?_
                have hW : xW D sa A s xa (xGs (LGf D (pf σ) (hf σ) (wf σ) (tf σ) (upd (cf σ) (8 * t + k) (nI ((cpv σ (8 * t + k)) ||| (2 ^ 25)))) (mf σ)) D xa σ τ) H locs := hW.eqG (LG_up (by omega) (LG_c _)).symm
                refine lv_iload hx hb dL_isTold_257 (lv_at hl 4 rfl) ?_
                refine lv_iconst (v := nI (1)) hx hb dL_isTold_259 (by decide +kernel) ?_
                refine lv_icmp_ne (tgt := 276) hx hb dL_isTold_260 (by decide) (fun c_260 => ?_) (fun c_260 => ?_)
                · -- ne taken
                  have c_260 : ¬ (way = 1) := fun h_ => c_260 ((x_eqN (a := way) (b := 1) (by omega) (by omega)).mpr h_)
                  refine lv_aload_n hx hb dL_isTold_276 rfl (lv_at hl 0 rfl) ?_
                  refine lv_iload hx hb dL_isTold_277 (lv_at hl 6 rfl) ?_
                  refine lv_iload hx hb dL_isTold_279 (lv_at hl 7 rfl) ?_
                  refine lv_iload hx hb dL_isTold_281 (lv_at hl 9 rfl) ?_
                  refine yg_i (k := 0) (i := 0) (As := [.int (nI (t)), .int (nI (k)), .int (nI (1))]) (rest := []) ⟨hx, hb, hml, hown, hts⟩ (c_X4_settle l hst0 D sa xa (LGf D (pf σ) (hf σ) (wf σ) (tf σ) (upd (cf σ) (8 * t + k) (nI ((cpv σ (8 * t + k)) ||| (2 ^ 25)))) (mf σ)) σ τ hg hL hT (nI (t)) (nI (k)) 1 (by decide)) (fun E => pxk_no (pS_of (i := t) (k := k) (by omega) (by omega) (by omega) (by omega)) trivial trivial) (cwV 3 hts gL_isTold_X4_settle rfl rfl rfl (by decide +kernel) ⟨Nat.le_of_ble_eq_true rfl, Nat.le_of_ble_eq_true rfl⟩) hW (xg_x (LGf D (pf σ) (hf σ) (wf σ) (tf σ) (upd (cf σ) (8 * t + k) (nI ((cpv σ (8 * t + k)) ||| (2 ^ 25)))) (mf σ)) D xa σ τ) rfl rfl rfl rfl hl.1 (Nat.le_of_ble_eq_true rfl) dL_isTold_283 ⟨Nat.le_of_ble_eq_true rfl, Nat.le_of_ble_eq_true rfl⟩ (fun r_283 xa1 G1 H locs hp hW => ?_)
                  obtain ⟨hgk, xb1, τ1, hag1, hu, hL1, hT1, hans⟩ := hp
                  have hu2 : G1 = _ := congrArg Prod.snd hu
                  subst hu2
                  have hu1 : xb1 = xa1 := (congrArg Prod.fst hu).symm
                  subst hu1
                  have hl : lv_has ls 12 [(0, .ref (xb1 0 0)), (1, .ref (xb1 43 0)), (2, .ref (xb1 44 0)), (3, .ref (xb1 45 0)), (4, .int (nI (way))), (5, .int (nI (z))), (6, .int (nI (t))), (7, .int (nI (k))), (8, .int (nI (8 * t + k))), (9, .int (nI (1))), (10, .int (nI (25))), (11, .int (nI (1)))] := by rw [hag1 0 0 (by omega), hag1 43 0 (by omega), hag1 44 0 (by omega), hag1 45 0 (by omega)]; exact hl
                  have hI1 : LI (t_settle σ (nI (t)) (nI (k)) 1 0) := LI_settle hI (by decide) hgk
                  rw [xn_nI (n := t) (by omega), xn_nI (n := k) (by omega)] at hans
                  have e_283 := hans.uniq (tv.one (P := σ 18 (8 * t + k) = 1) (by omega)) Iff.rfl
                  subst e_283
                  show W _ _ _ _ _ _ _ _ _ _ _ _ _ _ _ (F0 _ 286 ls [.int (nI (1))])
                  refine lv_iload hx hb dL_isTold_286 (lv_at hl 11 rfl) ?_
                  refine lv_icmp_ne (tgt := 295) hx hb dL_isTold_288 (by decide) (fun c_288 => ?_) (fun c_288 => ?_)
                  · -- ne taken
                    exact absurd (by decide) c_288
                  · -- ne not
                    refine lv_iconst (v := nI (1)) hx hb dL_isTold_291 (by decide +kernel) ?_
                    refine lv_goto (tgt := 296) hx hb dL_isTold_292 (by decide) ?_
                    have hW : xW D sa A s xb1 (xGs (LG D (t_settle σ (nI (t)) (nI (k)) 1 0)) D xb1 (t_settle σ (nI (t)) (nI (k)) 1 0) τ1) H locs := hW.eqG (congrArg (fun g => xGs g D xb1 (t_settle σ (nI (t)) (nI (k)) 1 0) τ1) (LG_settle1 (D := D) b_t (by omega) hcp)).symm
                    exact xe_i hx hb hr rfl hlocks hW ⟨_, hI1, xb1, τ1, hag1, rfl, hL1, hT1, rfl⟩ (Nat.le_of_ble_eq_true rfl) (Nat.le_of_ble_eq_true rfl) dL_isTold_296
                · -- ne not
                  have c_260 := (x_eqN (a := way) (b := 1) (by omega) (by omega)).mp c_260
                  exact absurd c_260 (by omega)
          · -- ne not
            have c_188 := (x_eqN (a := way) (b := 1) (by omega) (by omega)).mp c_188
            exact absurd c_188 (by omega)
        · -- ne not
          have c_173 := (x_eqN (a := way) (b := 1) (by omega) (by omega)).mp c_173
          refine lv_bipush (v := nI (24)) hx hb dL_isTold_176 (by decide +kernel) ?_
          refine lv_goto (tgt := 183) hx hb dL_isTold_178 (by decide) ?_
          refine lv_istore (lv' := [(10, .int (nI (24))), (0, .ref (xa 0 0)), (1, .ref (xa 43 0)), (2, .ref (xa 44 0)), (3, .ref (xa 45 0)), (4, .int (nI (way))), (5, .int (nI (z))), (6, .int (nI (t))), (7, .int (nI (k))), (8, .int (nI (8 * t + k))), (9, .int (nI (1)))]) hx hb dL_isTold_183 hl (by decide) rfl (fun ls hl => ?_)
          have hl : lv_has ls 12 [(0, .ref (xa 0 0)), (1, .ref (xa 43 0)), (2, .ref (xa 44 0)), (3, .ref (xa 45 0)), (4, .int (nI (way))), (5, .int (nI (z))), (6, .int (nI (t))), (7, .int (nI (k))), (8, .int (nI (8 * t + k))), (9, .int (nI (1))), (10, .int (nI (24)))] := lv_sub hl [1, 2, 3, 4, 5, 6, 7, 8, 9, 10, 0] rfl
          refine lv_iload hx hb dL_isTold_185 (lv_at hl 4 rfl) ?_
          refine lv_iconst (v := nI (1)) hx hb dL_isTold_187 (by decide +kernel) ?_
          refine lv_icmp_ne (tgt := 205) hx hb dL_isTold_188 (by decide) (fun c_188 => ?_) (fun c_188 => ?_)
          · -- ne taken
            have c_188 : ¬ (way = 1) := fun h_ => c_188 ((x_eqN (a := way) (b := 1) (by omega) (by omega)).mpr h_)
            exact absurd c_188 (by omega)
          · -- ne not
            have c_188 := (x_eqN (a := way) (b := 1) (by omega) (by omega)).mp c_188
            refine lv_aload_n hx hb dL_isTold_191 rfl (lv_at hl 2 rfl) ?_
            refine lv_iload hx hb dL_isTold_192 (lv_at hl 8 rfl) ?_
            refine x_ild hx hb hW 44 0 (LA_44 LA_x) (8 * t + k) rfl (by omega) (by omega) (v := nI (cpv σ (8 * t + k))) (rfl) dL_isTold_194 ?_
            have b_194 := LI.cp hI (t := t) (k := k) (by omega) (by omega)
            refine lv_iconst (v := nI (4)) hx hb dL_isTold_195 (by decide +kernel) ?_
            refine lv_ishr hx hb dL_isTold_196 ?_
            rw [bt_shr (m := cpv σ (8 * t + k)) (b := 4) (cp_lt b_194) (by omega)]
            refine lv_bipush (v := nI (15)) hx hb dL_isTold_197 (by decide +kernel) ?_
            refine lv_iand hx hb dL_isTold_199 ?_
            rw [cp_k b_194]
            have bb_199 := b_194
            unfold cpo at bb_199
            refine lv_if_le (tgt := 205) hx hb dL_isTold_200 (by decide) (fun c_200 => ?_) (fun c_200 => ?_)
            · -- le taken
              have c_200 := Int32.le_iff_toInt_le.mp c_200
              rw [nI_toInt (n := σ 14 (8 * t + k)) (by omega)] at c_200
              rw [x_t0] at c_200
              refine lv_aload_n hx hb dL_isTold_205 rfl (lv_at hl 2 rfl) ?_
              refine lv_iload hx hb dL_isTold_206 (lv_at hl 8 rfl) ?_
              refine x_ild hx hb hW 44 0 (LA_44 LA_x) (8 * t + k) rfl (by omega) (by omega) (v := nI (cpv σ (8 * t + k))) (rfl) dL_isTold_208 ?_
              have b_208 := LI.cp hI (t := t) (k := k) (by omega) (by omega)
              refine lv_iload hx hb dL_isTold_209 (lv_at hl 10 rfl) ?_
              refine lv_ishr hx hb dL_isTold_211 ?_
              rw [bt_shr (m := cpv σ (8 * t + k)) (b := 24) (cp_lt b_208) (by omega)]
              refine lv_iconst (v := nI (1)) hx hb dL_isTold_212 (by decide +kernel) ?_
              refine lv_iand hx hb dL_isTold_213 ?_
              rw [cp_r b_208]
              have bb_213 := b_208
              unfold cpo at bb_213
              refine lv_iconst (v := nI (1)) hx hb dL_isTold_214 (by decide +kernel) ?_
              refine lv_icmp_ne (tgt := 222) hx hb dL_isTold_215 (by decide) (fun c_215 => ?_) (fun c_215 => ?_)
              · -- ne taken
                have c_215 : ¬ (σ 17 (8 * t + k) = 1) := fun h_ => c_215 ((x_eqN (a := σ 17 (8 * t + k)) (b := 1) (by omega) (by omega)).mpr h_)
                refine lv_iconst (v := nI (0)) hx hb dL_isTold_222 (by decide +kernel) ?_
                refine lv_istore (lv' := [(11, .int (nI (0))), (0, .ref (xa 0 0)), (1, .ref (xa 43 0)), (2, .ref (xa 44 0)), (3, .ref (xa 45 0)), (4, .int (nI (way))), (5, .int (nI (z))), (6, .int (nI (t))), (7, .int (nI (k))), (8, .int (nI (8 * t + k))), (9, .int (nI (1))), (10, .int (nI (24)))]) hx hb dL_isTold_223 hl (by decide) rfl (fun ls hl => ?_)
                have hl : lv_has ls 12 [(0, .ref (xa 0 0)), (1, .ref (xa 43 0)), (2, .ref (xa 44 0)), (3, .ref (xa 45 0)), (4, .int (nI (way))), (5, .int (nI (z))), (6, .int (nI (t))), (7, .int (nI (k))), (8, .int (nI (8 * t + k))), (9, .int (nI (1))), (10, .int (nI (24))), (11, .int (nI (0)))] := lv_sub hl [1, 2, 3, 4, 5, 6, 7, 8, 9, 10, 11, 0] rfl
                refine lv_aload_n hx hb dL_isTold_225 rfl (lv_at hl 2 rfl) ?_
                refine lv_iload hx hb dL_isTold_226 (lv_at hl 8 rfl) ?_
                refine lv_iload hx hb dL_isTold_228 (lv_at hl 9 rfl) ?_
                refine lv_if_eq (tgt := 245) hx hb dL_isTold_230 (by decide) (fun c_230 => ?_) (fun c_230 => ?_)
                · -- eq taken
                  exact absurd c_230 (by decide)
                · -- eq not
                  refine lv_aload_n hx hb dL_isTold_233 rfl (lv_at hl 2 rfl) ?_
                  refine lv_iload hx hb dL_isTold_234 (lv_at hl 8 rfl) ?_
                  refine x_ild hx hb hW 44 0 (LA_44 LA_x) (8 * t + k) rfl (by omega) (by omega) (v := nI (cpv σ (8 * t + k))) (rfl) dL_isTold_236 ?_
                  have b_236 := LI.cp hI (t := t) (k := k) (by omega) (by omega)
                  refine lv_iconst (v := nI (1)) hx hb dL_isTold_237 (by decide +kernel) ?_
                  refine lv_iload hx hb dL_isTold_238 (lv_at hl 10 rfl) ?_
                  refine lv_ishl hx hb dL_isTold_240 ?_
                  rw [bt_shl (b := 24) (by omega)]
                  refine lv_ior hx hb dL_isTold_241 ?_
                  rw [nI_or]
                  refine lv_goto (tgt := 256) hx hb dL_isTold_242 (by decide) ?_
                  refine x_ist hx hb hW 44 0 (LA_44 LA_x) (8 * t + k) rfl (by omega) (by omega) dL_isTold_256 fun H locs hW => ?_
                  have hW : xW D sa A s xa (xGs (LGf D (pf σ) (hf σ) (wf σ) (tf σ) (upd (cf σ) (8 * t + k) (nI ((cpv σ (8 * t + k)) ||| (2 ^ 24)))) (mf σ)) D xa σ τ) H locs := hW.eqG (LG_up (by omega) (LG_c _)).symm
                  refine lv_iload hx hb dL_isTold_257 (lv_at hl 4 rfl) ?_
                  refine lv_iconst (v := nI (1)) hx hb dL_isTold_259 (by decide +kernel) ?_
                  refine lv_icmp_ne (tgt := 276) hx hb dL_isTold_260 (by decide) (fun c_260 => ?_) (fun c_260 => ?_)
                  · -- ne taken
                    have c_260 : ¬ (way = 1) := fun h_ => c_260 ((x_eqN (a := way) (b := 1) (by omega) (by omega)).mpr h_)
                    exact absurd c_260 (by omega)
                  · -- ne not
                    have c_260 := (x_eqN (a := way) (b := 1) (by omega) (by omega)).mp c_260
                    refine lv_aload_n hx hb dL_isTold_263 rfl (lv_at hl 0 rfl) ?_
                    refine lv_iload hx hb dL_isTold_264 (lv_at hl 6 rfl) ?_
                    refine lv_iload hx hb dL_isTold_266 (lv_at hl 7 rfl) ?_
                    refine lv_iload hx hb dL_isTold_268 (lv_at hl 9 rfl) ?_
                    refine yg_i (k := 0) (i := 0) (As := [.int (nI (t)), .int (nI (k)), .int (nI (1))]) (rest := []) ⟨hx, hb, hml, hown, hts⟩ (c_X4_rebut l hst0 D sa xa (LGf D (pf σ) (hf σ) (wf σ) (tf σ) (upd (cf σ) (8 * t + k) (nI ((cpv σ (8 * t + k)) ||| (2 ^ 24)))) (mf σ)) σ τ hg hL hT (nI (t)) (nI (k)) 1 (by decide)) (fun E => pxk_no (pS_of (i := t) (k := k) (by omega) (by omega) (by omega) (by omega)) (by rw [xn_nI (by omega), xn_nI (by omega)]; omega) trivial) (cwV 3 hts gL_isTold_X4_rebut rfl rfl rfl (by decide +kernel) ⟨Nat.le_of_ble_eq_true rfl, Nat.le_of_ble_eq_true rfl⟩) hW (xg_x (LGf D (pf σ) (hf σ) (wf σ) (tf σ) (upd (cf σ) (8 * t + k) (nI ((cpv σ (8 * t + k)) ||| (2 ^ 24)))) (mf σ)) D xa σ τ) rfl rfl rfl rfl hl.1 (Nat.le_of_ble_eq_true rfl) dL_isTold_270 ⟨Nat.le_of_ble_eq_true rfl, Nat.le_of_ble_eq_true rfl⟩ (fun r_270 xa1 G1 H locs hp hW => ?_)
                    obtain ⟨hgk, xb1, τ1, hag1, hu, hL1, hT1, hans⟩ := hp
                    have hu2 : G1 = _ := congrArg Prod.snd hu
                    subst hu2
                    have hu1 : xb1 = xa1 := (congrArg Prod.fst hu).symm
                    subst hu1
                    have hl : lv_has ls 12 [(0, .ref (xb1 0 0)), (1, .ref (xb1 43 0)), (2, .ref (xb1 44 0)), (3, .ref (xb1 45 0)), (4, .int (nI (way))), (5, .int (nI (z))), (6, .int (nI (t))), (7, .int (nI (k))), (8, .int (nI (8 * t + k))), (9, .int (nI (1))), (10, .int (nI (24))), (11, .int (nI (0)))] := by rw [hag1 0 0 (by omega), hag1 43 0 (by omega), hag1 44 0 (by omega), hag1 45 0 (by omega)]; exact hl
                    have hI1 : LI (t_rebut σ (nI (t)) (nI (k)) 1 0) := LI_rebut hI (by decide) hgk
                    rw [xn_nI (n := t) (by omega), xn_nI (n := k) (by omega)] at hans
                    have e_270 := hans.uniq (tv.zero (P := σ 17 (8 * t + k) = 1) (by omega)) Iff.rfl
                    subst e_270
                    show W _ _ _ _ _ _ _ _ _ _ _ _ _ _ _ (F0 _ 273 ls [.int (nI (0))])
                    refine lv_goto (tgt := 286) hx hb dL_isTold_273 (by decide) ?_
                    refine lv_iload hx hb dL_isTold_286 (lv_at hl 11 rfl) ?_
                    refine lv_icmp_ne (tgt := 295) hx hb dL_isTold_288 (by decide) (fun c_288 => ?_) (fun c_288 => ?_)
                    · -- ne taken
                      exact absurd (by decide) c_288
                    · -- ne not
                      refine lv_iconst (v := nI (1)) hx hb dL_isTold_291 (by decide +kernel) ?_
                      refine lv_goto (tgt := 296) hx hb dL_isTold_292 (by decide) ?_
                      have hW : xW D sa A s xb1 (xGs (LG D (t_rebut σ (nI (t)) (nI (k)) 1 0)) D xb1 (t_rebut σ (nI (t)) (nI (k)) 1 0) τ1) H locs := hW.eqG (congrArg (fun g => xGs g D xb1 (t_rebut σ (nI (t)) (nI (k)) 1 0) τ1) (LG_rebut1 (D := D) b_t (by omega) hcp)).symm
                      exact xe_i hx hb hr rfl hlocks hW ⟨_, hI1, xb1, τ1, hag1, rfl, hL1, hT1, rfl⟩ (Nat.le_of_ble_eq_true rfl) (Nat.le_of_ble_eq_true rfl) dL_isTold_296
              · -- ne not
                have c_215 := (x_eqN (a := σ 17 (8 * t + k)) (b := 1) (by omega) (by omega)).mp c_215
                refine lv_iconst (v := nI (1)) hx hb dL_isTold_218 (by decide +kernel) ?_
                refine lv_goto (tgt := 223) hx hb dL_isTold_219 (by decide) ?_
                refine lv_istore (lv' := [(11, .int (nI (1))), (0, .ref (xa 0 0)), (1, .ref (xa 43 0)), (2, .ref (xa 44 0)), (3, .ref (xa 45 0)), (4, .int (nI (way))), (5, .int (nI (z))), (6, .int (nI (t))), (7, .int (nI (k))), (8, .int (nI (8 * t + k))), (9, .int (nI (1))), (10, .int (nI (24)))]) hx hb dL_isTold_223 hl (by decide) rfl (fun ls hl => ?_)
                have hl : lv_has ls 12 [(0, .ref (xa 0 0)), (1, .ref (xa 43 0)), (2, .ref (xa 44 0)), (3, .ref (xa 45 0)), (4, .int (nI (way))), (5, .int (nI (z))), (6, .int (nI (t))), (7, .int (nI (k))), (8, .int (nI (8 * t + k))), (9, .int (nI (1))), (10, .int (nI (24))), (11, .int (nI (1)))] := lv_sub hl [1, 2, 3, 4, 5, 6, 7, 8, 9, 10, 11, 0] rfl
                refine lv_aload_n hx hb dL_isTold_225 rfl (lv_at hl 2 rfl) ?_
                refine lv_iload hx hb dL_isTold_226 (lv_at hl 8 rfl) ?_
                refine lv_iload hx hb dL_isTold_228 (lv_at hl 9 rfl) ?_
                refine lv_if_eq (tgt := 245) hx hb dL_isTold_230 (by decide) (fun c_230 => ?_) (fun c_230 => ?_)
                · -- eq taken
                  exact absurd c_230 (by decide)
                · -- eq not
                  refine lv_aload_n hx hb dL_isTold_233 rfl (lv_at hl 2 rfl) ?_
                  refine lv_iload hx hb dL_isTold_234 (lv_at hl 8 rfl) ?_
                  refine x_ild hx hb hW 44 0 (LA_44 LA_x) (8 * t + k) rfl (by omega) (by omega) (v := nI (cpv σ (8 * t + k))) (rfl) dL_isTold_236 ?_
                  have b_236 := LI.cp hI (t := t) (k := k) (by omega) (by omega)
                  refine lv_iconst (v := nI (1)) hx hb dL_isTold_237 (by decide +kernel) ?_
                  refine lv_iload hx hb dL_isTold_238 (lv_at hl 10 rfl) ?_
                  refine lv_ishl hx hb dL_isTold_240 ?_
                  rw [bt_shl (b := 24) (by omega)]
                  refine lv_ior hx hb dL_isTold_241 ?_
                  rw [nI_or]
                  refine lv_goto (tgt := 256) hx hb dL_isTold_242 (by decide) ?_
                  refine x_ist hx hb hW 44 0 (LA_44 LA_x) (8 * t + k) rfl (by omega) (by omega) dL_isTold_256 fun H locs hW => ?_
                  have hW : xW D sa A s xa (xGs (LGf D (pf σ) (hf σ) (wf σ) (tf σ) (upd (cf σ) (8 * t + k) (nI ((cpv σ (8 * t + k)) ||| (2 ^ 24)))) (mf σ)) D xa σ τ) H locs := hW.eqG (LG_up (by omega) (LG_c _)).symm
                  refine lv_iload hx hb dL_isTold_257 (lv_at hl 4 rfl) ?_
                  refine lv_iconst (v := nI (1)) hx hb dL_isTold_259 (by decide +kernel) ?_
                  refine lv_icmp_ne (tgt := 276) hx hb dL_isTold_260 (by decide) (fun c_260 => ?_) (fun c_260 => ?_)
                  · -- ne taken
                    have c_260 : ¬ (way = 1) := fun h_ => c_260 ((x_eqN (a := way) (b := 1) (by omega) (by omega)).mpr h_)
                    exact absurd c_260 (by omega)
                  · -- ne not
                    have c_260 := (x_eqN (a := way) (b := 1) (by omega) (by omega)).mp c_260
                    refine lv_aload_n hx hb dL_isTold_263 rfl (lv_at hl 0 rfl) ?_
                    refine lv_iload hx hb dL_isTold_264 (lv_at hl 6 rfl) ?_
                    refine lv_iload hx hb dL_isTold_266 (lv_at hl 7 rfl) ?_
                    refine lv_iload hx hb dL_isTold_268 (lv_at hl 9 rfl) ?_
                    refine yg_i (k := 0) (i := 0) (As := [.int (nI (t)), .int (nI (k)), .int (nI (1))]) (rest := []) ⟨hx, hb, hml, hown, hts⟩ (c_X4_rebut l hst0 D sa xa (LGf D (pf σ) (hf σ) (wf σ) (tf σ) (upd (cf σ) (8 * t + k) (nI ((cpv σ (8 * t + k)) ||| (2 ^ 24)))) (mf σ)) σ τ hg hL hT (nI (t)) (nI (k)) 1 (by decide)) (fun E => pxk_no (pS_of (i := t) (k := k) (by omega) (by omega) (by omega) (by omega)) (by rw [xn_nI (by omega), xn_nI (by omega)]; omega) trivial) (cwV 3 hts gL_isTold_X4_rebut rfl rfl rfl (by decide +kernel) ⟨Nat.le_of_ble_eq_true rfl, Nat.le_of_ble_eq_true rfl⟩) hW (xg_x (LGf D (pf σ) (hf σ) (wf σ) (tf σ) (upd (cf σ) (8 * t + k) (nI ((cpv σ (8 * t + k)) ||| (2 ^ 24)))) (mf σ)) D xa σ τ) rfl rfl rfl rfl hl.1 (Nat.le_of_ble_eq_true rfl) dL_isTold_270 ⟨Nat.le_of_ble_eq_true rfl, Nat.le_of_ble_eq_true rfl⟩ (fun r_270 xa1 G1 H locs hp hW => ?_)
                    obtain ⟨hgk, xb1, τ1, hag1, hu, hL1, hT1, hans⟩ := hp
                    have hu2 : G1 = _ := congrArg Prod.snd hu
                    subst hu2
                    have hu1 : xb1 = xa1 := (congrArg Prod.fst hu).symm
                    subst hu1
                    have hl : lv_has ls 12 [(0, .ref (xb1 0 0)), (1, .ref (xb1 43 0)), (2, .ref (xb1 44 0)), (3, .ref (xb1 45 0)), (4, .int (nI (way))), (5, .int (nI (z))), (6, .int (nI (t))), (7, .int (nI (k))), (8, .int (nI (8 * t + k))), (9, .int (nI (1))), (10, .int (nI (24))), (11, .int (nI (1)))] := by rw [hag1 0 0 (by omega), hag1 43 0 (by omega), hag1 44 0 (by omega), hag1 45 0 (by omega)]; exact hl
                    have hI1 : LI (t_rebut σ (nI (t)) (nI (k)) 1 0) := LI_rebut hI (by decide) hgk
                    rw [xn_nI (n := t) (by omega), xn_nI (n := k) (by omega)] at hans
                    have e_270 := hans.uniq (tv.one (P := σ 17 (8 * t + k) = 1) (by omega)) Iff.rfl
                    subst e_270
                    show W _ _ _ _ _ _ _ _ _ _ _ _ _ _ _ (F0 _ 273 ls [.int (nI (1))])
                    refine lv_goto (tgt := 286) hx hb dL_isTold_273 (by decide) ?_
                    refine lv_iload hx hb dL_isTold_286 (lv_at hl 11 rfl) ?_
                    refine lv_icmp_ne (tgt := 295) hx hb dL_isTold_288 (by decide) (fun c_288 => ?_) (fun c_288 => ?_)
                    · -- ne taken
                      exact absurd (by decide) c_288
                    · -- ne not
                      refine lv_iconst (v := nI (1)) hx hb dL_isTold_291 (by decide +kernel) ?_
                      refine lv_goto (tgt := 296) hx hb dL_isTold_292 (by decide) ?_
                      have hW : xW D sa A s xb1 (xGs (LG D (t_rebut σ (nI (t)) (nI (k)) 1 0)) D xb1 (t_rebut σ (nI (t)) (nI (k)) 1 0) τ1) H locs := hW.eqG (congrArg (fun g => xGs g D xb1 (t_rebut σ (nI (t)) (nI (k)) 1 0) τ1) (LG_rebut1 (D := D) b_t (by omega) hcp)).symm
                      exact xe_i hx hb hr rfl hlocks hW ⟨_, hI1, xb1, τ1, hag1, rfl, hL1, hT1, rfl⟩ (Nat.le_of_ble_eq_true rfl) (Nat.le_of_ble_eq_true rfl) dL_isTold_296
            · -- le not
              have c_200 : ¬ ((nI (σ 14 (8 * t + k))).toInt ≤ ((0 : Int32)).toInt) := fun h => c_200 (Int32.le_iff_toInt_le.mpr h)
              rw [nI_toInt (n := σ 14 (8 * t + k)) (by omega)] at c_200
              rw [x_t0] at c_200
              refine lv_iconst (v := nI (1)) hx hb dL_isTold_203 (by decide +kernel) ?_
              exact xe_i hx hb hr rfl hlocks hW ⟨σ, hI, xa, τ, fun _ _ _ => rfl, rfl, hL, hT, rfl⟩ (Nat.le_of_ble_eq_true rfl) (Nat.le_of_ble_eq_true rfl) dL_isTold_204
    · -- ne not
      have c_125 := (x_eqZ (a := σ 11 t) (by omega)).mp c_125
      refine lv_iconst (v := nI (1)) hx hb dL_isTold_128 (by decide +kernel) ?_
      exact xe_i hx hb hr rfl hlocks hW ⟨σ, hI, xa, τ, fun _ _ _ => rfl, rfl, hL, hT, rfl⟩ (Nat.le_of_ble_eq_true rfl) (Nat.le_of_ble_eq_true rfl) dL_isTold_129
  · -- ne not
    have c_8 := (x_eqZ (a := way) (by omega)).mp c_8
    refine lv_iload hx hb dL_isTold_11 (lv_at hl 5 rfl) ?_
    refine lv_iconst (v := nI (3)) hx hb dL_isTold_13 (by decide +kernel) ?_
    refine lv_idiv hx hb dL_isTold_14 (nI_ne0 (n := 3) (by omega) (by omega)) ?_
    rw [pk_div (a := z) (d := 3) (by omega) (by omega) (by omega)]
    refine lv_bipush (v := nI (16)) hx hb dL_isTold_15 (by decide +kernel) ?_
    refine lv_irem hx hb dL_isTold_17 (nI_ne0 (n := 16) (by omega) (by omega)) ?_
    rw [n_rem (a := z / 3) (d := 16) (by omega) (by omega) (by omega)]
    refine lv_istore (lv' := [(7, .int (nI ((z / 3) % 16))), (0, .ref (xa 0 0)), (1, .ref (xa 43 0)), (2, .ref (xa 44 0)), (3, .ref (xa 45 0)), (4, .int (nI (way))), (5, .int (nI (z))), (6, .int (nI (t)))]) hx hb dL_isTold_18 hl (by decide) rfl (fun ls hl => ?_)
    have hl : lv_has ls 12 [(0, .ref (xa 0 0)), (1, .ref (xa 43 0)), (2, .ref (xa 44 0)), (3, .ref (xa 45 0)), (4, .int (nI (way))), (5, .int (nI (z))), (6, .int (nI (t))), (7, .int (nI ((z / 3) % 16)))] := lv_sub hl [1, 2, 3, 4, 5, 6, 7, 0] rfl
    obtain ⟨b0, hb0⟩ : ∃ x_, x_ = (z / 3) % 16 := ⟨_, rfl⟩
    rw [← hb0] at hl
    have b_b0 : b0 < 16 := by omega
    have b_pw : 2 ^ b0 ≤ 2 ^ 15 := Nat.pow_le_pow_right (by omega) (by omega)
    refine lv_iload hx hb dL_isTold_20 (lv_at hl 5 rfl) ?_
    refine lv_bipush (v := nI (48)) hx hb dL_isTold_22 (by decide +kernel) ?_
    refine lv_idiv hx hb dL_isTold_24 (nI_ne0 (n := 48) (by omega) (by omega)) ?_
    rw [pk_div (a := z) (d := 48) (by omega) (by omega) (by omega)]
    refine lv_iconst (v := nI (2)) hx hb dL_isTold_25 (by decide +kernel) ?_
    refine lv_irem hx hb dL_isTold_26 (nI_ne0 (n := 2) (by omega) (by omega)) ?_
    rw [n_rem (a := z / 48) (d := 2) (by omega) (by omega) (by omega)]
    refine lv_if_ne (tgt := 34) hx hb dL_isTold_27 (by decide) (fun c_27 => ?_) (fun c_27 => ?_)
    · -- ne taken
      have c_27 : ¬ ((z / 48) % 2 = 0) := fun h_ => c_27 ((x_eqZ (a := (z / 48) % 2) (by omega)).mpr h_)
      refine lv_iconst (v := nI (0)) hx hb dL_isTold_34 (by decide +kernel) ?_
      refine lv_istore (lv' := [(8, .int (nI (0))), (0, .ref (xa 0 0)), (1, .ref (xa 43 0)), (2, .ref (xa 44 0)), (3, .ref (xa 45 0)), (4, .int (nI (way))), (5, .int (nI (z))), (6, .int (nI (t))), (7, .int (nI (b0)))]) hx hb dL_isTold_35 hl (by decide) rfl (fun ls hl => ?_)
      have hl : lv_has ls 12 [(0, .ref (xa 0 0)), (1, .ref (xa 43 0)), (2, .ref (xa 44 0)), (3, .ref (xa 45 0)), (4, .int (nI (way))), (5, .int (nI (z))), (6, .int (nI (t))), (7, .int (nI (b0))), (8, .int (nI (0)))] := lv_sub hl [1, 2, 3, 4, 5, 6, 7, 8, 0] rfl
      refine lv_aload_n hx hb dL_isTold_37 rfl (lv_at hl 1 rfl) ?_
      refine lv_iconst (v := nI (2)) hx hb dL_isTold_38 (by decide +kernel) ?_
      refine lv_iload hx hb dL_isTold_39 (lv_at hl 6 rfl) ?_
      refine lv_imul hx hb dL_isTold_41 ?_
      rw [pk_mul]
      refine x_ild hx hb hW 43 0 (LA_43 LA_x) (2 * t) rfl (by omega) (by omega) (v := nI (σ 9 t)) ((congrArg nI (tv_0 σ t))) dL_isTold_42 ?_
      have b_42 := hB 9 t
      refine lv_iload hx hb dL_isTold_43 (lv_at hl 7 rfl) ?_
      refine lv_ishr hx hb dL_isTold_45 ?_
      rw [bt_shr (m := σ 9 t) (b := b0) (by omega) (by omega)]
      refine lv_iconst (v := nI (1)) hx hb dL_isTold_46 (by decide +kernel) ?_
      refine lv_iand hx hb dL_isTold_47 ?_
      rw [bt_and1]
      refine lv_iconst (v := nI (1)) hx hb dL_isTold_48 (by decide +kernel) ?_
      refine lv_icmp_ne (tgt := 56) hx hb dL_isTold_49 (by decide) (fun c_49 => ?_) (fun c_49 => ?_)
      · -- ne taken
        have c_49 : ¬ (((σ 9 t) / 2 ^ b0) % 2 = 1) := fun h_ => c_49 ((x_eqN (a := ((σ 9 t) / 2 ^ b0) % 2) (b := 1) (by omega) (by omega)).mpr h_)
        refine lv_iconst (v := nI (0)) hx hb dL_isTold_56 (by decide +kernel) ?_
        refine lv_istore (lv' := [(9, .int (nI (0))), (0, .ref (xa 0 0)), (1, .ref (xa 43 0)), (2, .ref (xa 44 0)), (3, .ref (xa 45 0)), (4, .int (nI (way))), (5, .int (nI (z))), (6, .int (nI (t))), (7, .int (nI (b0))), (8, .int (nI (0)))]) hx hb dL_isTold_57 hl (by decide) rfl (fun ls hl => ?_)
        have hl : lv_has ls 12 [(0, .ref (xa 0 0)), (1, .ref (xa 43 0)), (2, .ref (xa 44 0)), (3, .ref (xa 45 0)), (4, .int (nI (way))), (5, .int (nI (z))), (6, .int (nI (t))), (7, .int (nI (b0))), (8, .int (nI (0))), (9, .int (nI (0)))] := lv_sub hl [1, 2, 3, 4, 5, 6, 7, 8, 9, 0] rfl
        refine lv_aload_n hx hb dL_isTold_59 rfl (lv_at hl 1 rfl) ?_
        refine lv_iconst (v := nI (2)) hx hb dL_isTold_60 (by decide +kernel) ?_
        refine lv_iload hx hb dL_isTold_61 (lv_at hl 6 rfl) ?_
        refine lv_imul hx hb dL_isTold_63 ?_
        rw [pk_mul]
        refine lv_iload hx hb dL_isTold_64 (lv_at hl 8 rfl) ?_
        refine lv_if_eq (tgt := 83) hx hb dL_isTold_66 (by decide) (fun c_66 => ?_) (fun c_66 => ?_)
        · -- eq taken
          refine lv_aload_n hx hb dL_isTold_83 rfl (lv_at hl 1 rfl) ?_
          refine lv_iconst (v := nI (2)) hx hb dL_isTold_84 (by decide +kernel) ?_
          refine lv_iload hx hb dL_isTold_85 (lv_at hl 6 rfl) ?_
          refine lv_imul hx hb dL_isTold_87 ?_
          rw [pk_mul]
          refine x_ild hx hb hW 43 0 (LA_43 LA_x) (2 * t) rfl (by omega) (by omega) (v := nI (σ 9 t)) ((congrArg nI (tv_0 σ t))) dL_isTold_88 ?_
          have b_88 := hB 9 t
          refine lv_ldc (v := nI 65535) hx hb hown (hts (.constant RL 97 (65535)) (by decide +kernel)) dL_isTold_89 ?_
          refine lv_iconst (v := nI (1)) hx hb dL_isTold_91 (by decide +kernel) ?_
          refine lv_iload hx hb dL_isTold_92 (lv_at hl 7 rfl) ?_
          refine lv_ishl hx hb dL_isTold_94 ?_
          rw [bt_shl (b := b0) (by omega)]
          refine lv_isub hx hb dL_isTold_95 ?_
          rw [pk_sub (a := 65535) (b := 2 ^ b0) (by omega)]
          refine lv_iand hx hb dL_isTold_96 ?_
          rw [nI_and]
          refine x_ist hx hb hW 43 0 (LA_43 LA_x) (2 * t) rfl (by omega) (by omega) dL_isTold_97 fun H locs hW => ?_
          have hW : xW D sa A s xa (xGs (LGf D (pf σ) (hf σ) (wf σ) (upd (tf σ) (2 * t) (nI ((σ 9 t) &&& (65535 - (2 ^ b0))))) (cf σ) (mf σ)) D xa σ τ) H locs := hW.eqG (LG_up (by omega) (LG_t _)).symm
          refine lv_aload_n hx hb dL_isTold_98 rfl (lv_at hl 0 rfl) ?_
          refine lv_iload hx hb dL_isTold_99 (lv_at hl 6 rfl) ?_
          refine lv_iload hx hb dL_isTold_101 (lv_at hl 7 rfl) ?_
          refine lv_iload hx hb dL_isTold_103 (lv_at hl 8 rfl) ?_
          refine yg_i (k := 0) (i := 0) (As := [.int (nI (t)), .int (nI (b0)), .int (nI (0))]) (rest := []) ⟨hx, hb, hml, hown, hts⟩ (c_X4_mark l hst0 D sa xa (LGf D (pf σ) (hf σ) (wf σ) (upd (tf σ) (2 * t) (nI ((σ 9 t) &&& (65535 - (2 ^ b0))))) (cf σ) (mf σ)) σ τ hg hL hT (nI (t)) (nI (b0)) 0 (by decide)) (fun E => pxk_no (pT_of (i := t) (by omega) (by omega)) (rg_of (n := b0) (by omega) (by omega) (by omega)) trivial) (cwV 3 hts gL_isTold_X4_mark rfl rfl rfl (by decide +kernel) ⟨Nat.le_of_ble_eq_true rfl, Nat.le_of_ble_eq_true rfl⟩) hW (xg_x (LGf D (pf σ) (hf σ) (wf σ) (upd (tf σ) (2 * t) (nI ((σ 9 t) &&& (65535 - (2 ^ b0))))) (cf σ) (mf σ)) D xa σ τ) rfl rfl rfl rfl hl.1 (Nat.le_of_ble_eq_true rfl) dL_isTold_105 ⟨Nat.le_of_ble_eq_true rfl, Nat.le_of_ble_eq_true rfl⟩ (fun r_105 xa1 G1 H locs hp hW => ?_)
          obtain ⟨hgk, xb1, τ1, hag1, hu, hL1, hT1, hans⟩ := hp
          have hu2 : G1 = _ := congrArg Prod.snd hu
          subst hu2
          have hu1 : xb1 = xa1 := (congrArg Prod.fst hu).symm
          subst hu1
          have hl : lv_has ls 12 [(0, .ref (xb1 0 0)), (1, .ref (xb1 43 0)), (2, .ref (xb1 44 0)), (3, .ref (xb1 45 0)), (4, .int (nI (way))), (5, .int (nI (z))), (6, .int (nI (t))), (7, .int (nI (b0))), (8, .int (nI (0))), (9, .int (nI (0)))] := by rw [hag1 0 0 (by omega), hag1 43 0 (by omega), hag1 44 0 (by omega), hag1 45 0 (by omega)]; exact hl
          have hI1 : LI (t_mark σ (nI (t)) (nI (b0)) 0 0) := LI_mark hI hgk
          rw [xn_nI (n := t) (by omega), xn_nI (n := b0) (by omega)] at hans
          have e_105 := hans.uniq (tv.zero (P := σ 9 t / 2 ^ b0 % 2 = 1) (by omega)) Iff.rfl
          subst e_105
          show W _ _ _ _ _ _ _ _ _ _ _ _ _ _ _ (F0 _ 108 ls [.int (nI (0))])
          refine lv_iload hx hb dL_isTold_108 (lv_at hl 9 rfl) ?_
          refine lv_icmp_ne (tgt := 117) hx hb dL_isTold_110 (by decide) (fun c_110 => ?_) (fun c_110 => ?_)
          · -- ne taken
            exact absurd (by decide) c_110
          · -- ne not
            refine lv_iconst (v := nI (1)) hx hb dL_isTold_113 (by decide +kernel) ?_
            refine lv_goto (tgt := 118) hx hb dL_isTold_114 (by decide) ?_
            have hW : xW D sa A s xb1 (xGs (LG D (t_mark σ (nI (t)) (nI (b0)) 0 0)) D xb1 (t_mark σ (nI (t)) (nI (b0)) 0 0) τ1) H locs := hW.eqG (congrArg (fun g => xGs g D xb1 (t_mark σ (nI (t)) (nI (b0)) 0 0) τ1) (LG_mark0 (D := D) b_t b_b0)).symm
            exact xe_i hx hb hr rfl hlocks hW ⟨_, hI1, xb1, τ1, hag1, rfl, hL1, hT1, rfl⟩ (Nat.le_of_ble_eq_true rfl) (Nat.le_of_ble_eq_true rfl) dL_isTold_118
        · -- eq not
          exact absurd (by decide) c_66
      · -- ne not
        have c_49 := (x_eqN (a := ((σ 9 t) / 2 ^ b0) % 2) (b := 1) (by omega) (by omega)).mp c_49
        refine lv_iconst (v := nI (1)) hx hb dL_isTold_52 (by decide +kernel) ?_
        refine lv_goto (tgt := 57) hx hb dL_isTold_53 (by decide) ?_
        refine lv_istore (lv' := [(9, .int (nI (1))), (0, .ref (xa 0 0)), (1, .ref (xa 43 0)), (2, .ref (xa 44 0)), (3, .ref (xa 45 0)), (4, .int (nI (way))), (5, .int (nI (z))), (6, .int (nI (t))), (7, .int (nI (b0))), (8, .int (nI (0)))]) hx hb dL_isTold_57 hl (by decide) rfl (fun ls hl => ?_)
        have hl : lv_has ls 12 [(0, .ref (xa 0 0)), (1, .ref (xa 43 0)), (2, .ref (xa 44 0)), (3, .ref (xa 45 0)), (4, .int (nI (way))), (5, .int (nI (z))), (6, .int (nI (t))), (7, .int (nI (b0))), (8, .int (nI (0))), (9, .int (nI (1)))] := lv_sub hl [1, 2, 3, 4, 5, 6, 7, 8, 9, 0] rfl
        refine lv_aload_n hx hb dL_isTold_59 rfl (lv_at hl 1 rfl) ?_
        refine lv_iconst (v := nI (2)) hx hb dL_isTold_60 (by decide +kernel) ?_
        refine lv_iload hx hb dL_isTold_61 (lv_at hl 6 rfl) ?_
        refine lv_imul hx hb dL_isTold_63 ?_
        rw [pk_mul]
        refine lv_iload hx hb dL_isTold_64 (lv_at hl 8 rfl) ?_
        refine lv_if_eq (tgt := 83) hx hb dL_isTold_66 (by decide) (fun c_66 => ?_) (fun c_66 => ?_)
        · -- eq taken
          refine lv_aload_n hx hb dL_isTold_83 rfl (lv_at hl 1 rfl) ?_
          refine lv_iconst (v := nI (2)) hx hb dL_isTold_84 (by decide +kernel) ?_
          refine lv_iload hx hb dL_isTold_85 (lv_at hl 6 rfl) ?_
          refine lv_imul hx hb dL_isTold_87 ?_
          rw [pk_mul]
          refine x_ild hx hb hW 43 0 (LA_43 LA_x) (2 * t) rfl (by omega) (by omega) (v := nI (σ 9 t)) ((congrArg nI (tv_0 σ t))) dL_isTold_88 ?_
          have b_88 := hB 9 t
          refine lv_ldc (v := nI 65535) hx hb hown (hts (.constant RL 97 (65535)) (by decide +kernel)) dL_isTold_89 ?_
          refine lv_iconst (v := nI (1)) hx hb dL_isTold_91 (by decide +kernel) ?_
          refine lv_iload hx hb dL_isTold_92 (lv_at hl 7 rfl) ?_
          refine lv_ishl hx hb dL_isTold_94 ?_
          rw [bt_shl (b := b0) (by omega)]
          refine lv_isub hx hb dL_isTold_95 ?_
          rw [pk_sub (a := 65535) (b := 2 ^ b0) (by omega)]
          refine lv_iand hx hb dL_isTold_96 ?_
          rw [nI_and]
          refine x_ist hx hb hW 43 0 (LA_43 LA_x) (2 * t) rfl (by omega) (by omega) dL_isTold_97 fun H locs hW => ?_
          have hW : xW D sa A s xa (xGs (LGf D (pf σ) (hf σ) (wf σ) (upd (tf σ) (2 * t) (nI ((σ 9 t) &&& (65535 - (2 ^ b0))))) (cf σ) (mf σ)) D xa σ τ) H locs := hW.eqG (LG_up (by omega) (LG_t _)).symm
          refine lv_aload_n hx hb dL_isTold_98 rfl (lv_at hl 0 rfl) ?_
          refine lv_iload hx hb dL_isTold_99 (lv_at hl 6 rfl) ?_
          refine lv_iload hx hb dL_isTold_101 (lv_at hl 7 rfl) ?_
          refine lv_iload hx hb dL_isTold_103 (lv_at hl 8 rfl) ?_
          refine yg_i (k := 0) (i := 0) (As := [.int (nI (t)), .int (nI (b0)), .int (nI (0))]) (rest := []) ⟨hx, hb, hml, hown, hts⟩ (c_X4_mark l hst0 D sa xa (LGf D (pf σ) (hf σ) (wf σ) (upd (tf σ) (2 * t) (nI ((σ 9 t) &&& (65535 - (2 ^ b0))))) (cf σ) (mf σ)) σ τ hg hL hT (nI (t)) (nI (b0)) 0 (by decide)) (fun E => pxk_no (pT_of (i := t) (by omega) (by omega)) (rg_of (n := b0) (by omega) (by omega) (by omega)) trivial) (cwV 3 hts gL_isTold_X4_mark rfl rfl rfl (by decide +kernel) ⟨Nat.le_of_ble_eq_true rfl, Nat.le_of_ble_eq_true rfl⟩) hW (xg_x (LGf D (pf σ) (hf σ) (wf σ) (upd (tf σ) (2 * t) (nI ((σ 9 t) &&& (65535 - (2 ^ b0))))) (cf σ) (mf σ)) D xa σ τ) rfl rfl rfl rfl hl.1 (Nat.le_of_ble_eq_true rfl) dL_isTold_105 ⟨Nat.le_of_ble_eq_true rfl, Nat.le_of_ble_eq_true rfl⟩ (fun r_105 xa1 G1 H locs hp hW => ?_)
          obtain ⟨hgk, xb1, τ1, hag1, hu, hL1, hT1, hans⟩ := hp
          have hu2 : G1 = _ := congrArg Prod.snd hu
          subst hu2
          have hu1 : xb1 = xa1 := (congrArg Prod.fst hu).symm
          subst hu1
          have hl : lv_has ls 12 [(0, .ref (xb1 0 0)), (1, .ref (xb1 43 0)), (2, .ref (xb1 44 0)), (3, .ref (xb1 45 0)), (4, .int (nI (way))), (5, .int (nI (z))), (6, .int (nI (t))), (7, .int (nI (b0))), (8, .int (nI (0))), (9, .int (nI (1)))] := by rw [hag1 0 0 (by omega), hag1 43 0 (by omega), hag1 44 0 (by omega), hag1 45 0 (by omega)]; exact hl
          have hI1 : LI (t_mark σ (nI (t)) (nI (b0)) 0 0) := LI_mark hI hgk
          rw [xn_nI (n := t) (by omega), xn_nI (n := b0) (by omega)] at hans
          have e_105 := hans.uniq (tv.one (P := σ 9 t / 2 ^ b0 % 2 = 1) (by omega)) Iff.rfl
          subst e_105
          show W _ _ _ _ _ _ _ _ _ _ _ _ _ _ _ (F0 _ 108 ls [.int (nI (1))])
          refine lv_iload hx hb dL_isTold_108 (lv_at hl 9 rfl) ?_
          refine lv_icmp_ne (tgt := 117) hx hb dL_isTold_110 (by decide) (fun c_110 => ?_) (fun c_110 => ?_)
          · -- ne taken
            exact absurd (by decide) c_110
          · -- ne not
            refine lv_iconst (v := nI (1)) hx hb dL_isTold_113 (by decide +kernel) ?_
            refine lv_goto (tgt := 118) hx hb dL_isTold_114 (by decide) ?_
            have hW : xW D sa A s xb1 (xGs (LG D (t_mark σ (nI (t)) (nI (b0)) 0 0)) D xb1 (t_mark σ (nI (t)) (nI (b0)) 0 0) τ1) H locs := hW.eqG (congrArg (fun g => xGs g D xb1 (t_mark σ (nI (t)) (nI (b0)) 0 0) τ1) (LG_mark0 (D := D) b_t b_b0)).symm
            exact xe_i hx hb hr rfl hlocks hW ⟨_, hI1, xb1, τ1, hag1, rfl, hL1, hT1, rfl⟩ (Nat.le_of_ble_eq_true rfl) (Nat.le_of_ble_eq_true rfl) dL_isTold_118
        · -- eq not
          exact absurd (by decide) c_66
    · -- ne not
      have c_27 := (x_eqZ (a := (z / 48) % 2) (by omega)).mp c_27
      refine lv_iconst (v := nI (1)) hx hb dL_isTold_30 (by decide +kernel) ?_
      refine lv_goto (tgt := 35) hx hb dL_isTold_31 (by decide) ?_
      refine lv_istore (lv' := [(8, .int (nI (1))), (0, .ref (xa 0 0)), (1, .ref (xa 43 0)), (2, .ref (xa 44 0)), (3, .ref (xa 45 0)), (4, .int (nI (way))), (5, .int (nI (z))), (6, .int (nI (t))), (7, .int (nI (b0)))]) hx hb dL_isTold_35 hl (by decide) rfl (fun ls hl => ?_)
      have hl : lv_has ls 12 [(0, .ref (xa 0 0)), (1, .ref (xa 43 0)), (2, .ref (xa 44 0)), (3, .ref (xa 45 0)), (4, .int (nI (way))), (5, .int (nI (z))), (6, .int (nI (t))), (7, .int (nI (b0))), (8, .int (nI (1)))] := lv_sub hl [1, 2, 3, 4, 5, 6, 7, 8, 0] rfl
      refine lv_aload_n hx hb dL_isTold_37 rfl (lv_at hl 1 rfl) ?_
      refine lv_iconst (v := nI (2)) hx hb dL_isTold_38 (by decide +kernel) ?_
      refine lv_iload hx hb dL_isTold_39 (lv_at hl 6 rfl) ?_
      refine lv_imul hx hb dL_isTold_41 ?_
      rw [pk_mul]
      refine x_ild hx hb hW 43 0 (LA_43 LA_x) (2 * t) rfl (by omega) (by omega) (v := nI (σ 9 t)) ((congrArg nI (tv_0 σ t))) dL_isTold_42 ?_
      have b_42 := hB 9 t
      refine lv_iload hx hb dL_isTold_43 (lv_at hl 7 rfl) ?_
      refine lv_ishr hx hb dL_isTold_45 ?_
      rw [bt_shr (m := σ 9 t) (b := b0) (by omega) (by omega)]
      refine lv_iconst (v := nI (1)) hx hb dL_isTold_46 (by decide +kernel) ?_
      refine lv_iand hx hb dL_isTold_47 ?_
      rw [bt_and1]
      refine lv_iconst (v := nI (1)) hx hb dL_isTold_48 (by decide +kernel) ?_
      refine lv_icmp_ne (tgt := 56) hx hb dL_isTold_49 (by decide) (fun c_49 => ?_) (fun c_49 => ?_)
      · -- ne taken
        have c_49 : ¬ (((σ 9 t) / 2 ^ b0) % 2 = 1) := fun h_ => c_49 ((x_eqN (a := ((σ 9 t) / 2 ^ b0) % 2) (b := 1) (by omega) (by omega)).mpr h_)
        refine lv_iconst (v := nI (0)) hx hb dL_isTold_56 (by decide +kernel) ?_
        refine lv_istore (lv' := [(9, .int (nI (0))), (0, .ref (xa 0 0)), (1, .ref (xa 43 0)), (2, .ref (xa 44 0)), (3, .ref (xa 45 0)), (4, .int (nI (way))), (5, .int (nI (z))), (6, .int (nI (t))), (7, .int (nI (b0))), (8, .int (nI (1)))]) hx hb dL_isTold_57 hl (by decide) rfl (fun ls hl => ?_)
        have hl : lv_has ls 12 [(0, .ref (xa 0 0)), (1, .ref (xa 43 0)), (2, .ref (xa 44 0)), (3, .ref (xa 45 0)), (4, .int (nI (way))), (5, .int (nI (z))), (6, .int (nI (t))), (7, .int (nI (b0))), (8, .int (nI (1))), (9, .int (nI (0)))] := lv_sub hl [1, 2, 3, 4, 5, 6, 7, 8, 9, 0] rfl
        refine lv_aload_n hx hb dL_isTold_59 rfl (lv_at hl 1 rfl) ?_
        refine lv_iconst (v := nI (2)) hx hb dL_isTold_60 (by decide +kernel) ?_
        refine lv_iload hx hb dL_isTold_61 (lv_at hl 6 rfl) ?_
        refine lv_imul hx hb dL_isTold_63 ?_
        rw [pk_mul]
        refine lv_iload hx hb dL_isTold_64 (lv_at hl 8 rfl) ?_
        refine lv_if_eq (tgt := 83) hx hb dL_isTold_66 (by decide) (fun c_66 => ?_) (fun c_66 => ?_)
        · -- eq taken
          exact absurd c_66 (by decide)
        · -- eq not
          refine lv_aload_n hx hb dL_isTold_69 rfl (lv_at hl 1 rfl) ?_
          refine lv_iconst (v := nI (2)) hx hb dL_isTold_70 (by decide +kernel) ?_
          refine lv_iload hx hb dL_isTold_71 (lv_at hl 6 rfl) ?_
          refine lv_imul hx hb dL_isTold_73 ?_
          rw [pk_mul]
          refine x_ild hx hb hW 43 0 (LA_43 LA_x) (2 * t) rfl (by omega) (by omega) (v := nI (σ 9 t)) ((congrArg nI (tv_0 σ t))) dL_isTold_74 ?_
          have b_74 := hB 9 t
          refine lv_iconst (v := nI (1)) hx hb dL_isTold_75 (by decide +kernel) ?_
          refine lv_iload hx hb dL_isTold_76 (lv_at hl 7 rfl) ?_
          refine lv_ishl hx hb dL_isTold_78 ?_
          rw [bt_shl (b := b0) (by omega)]
          refine lv_ior hx hb dL_isTold_79 ?_
          rw [nI_or]
          refine lv_goto (tgt := 97) hx hb dL_isTold_80 (by decide) ?_
          refine x_ist hx hb hW 43 0 (LA_43 LA_x) (2 * t) rfl (by omega) (by omega) dL_isTold_97 fun H locs hW => ?_
          have hW : xW D sa A s xa (xGs (LGf D (pf σ) (hf σ) (wf σ) (upd (tf σ) (2 * t) (nI ((σ 9 t) ||| (2 ^ b0)))) (cf σ) (mf σ)) D xa σ τ) H locs := hW.eqG (LG_up (by omega) (LG_t _)).symm
          refine lv_aload_n hx hb dL_isTold_98 rfl (lv_at hl 0 rfl) ?_
          refine lv_iload hx hb dL_isTold_99 (lv_at hl 6 rfl) ?_
          refine lv_iload hx hb dL_isTold_101 (lv_at hl 7 rfl) ?_
          refine lv_iload hx hb dL_isTold_103 (lv_at hl 8 rfl) ?_
          refine yg_i (k := 0) (i := 0) (As := [.int (nI (t)), .int (nI (b0)), .int (nI (1))]) (rest := []) ⟨hx, hb, hml, hown, hts⟩ (c_X4_mark l hst0 D sa xa (LGf D (pf σ) (hf σ) (wf σ) (upd (tf σ) (2 * t) (nI ((σ 9 t) ||| (2 ^ b0)))) (cf σ) (mf σ)) σ τ hg hL hT (nI (t)) (nI (b0)) 1 (by decide)) (fun E => pxk_no (pT_of (i := t) (by omega) (by omega)) (rg_of (n := b0) (by omega) (by omega) (by omega)) trivial) (cwV 3 hts gL_isTold_X4_mark rfl rfl rfl (by decide +kernel) ⟨Nat.le_of_ble_eq_true rfl, Nat.le_of_ble_eq_true rfl⟩) hW (xg_x (LGf D (pf σ) (hf σ) (wf σ) (upd (tf σ) (2 * t) (nI ((σ 9 t) ||| (2 ^ b0)))) (cf σ) (mf σ)) D xa σ τ) rfl rfl rfl rfl hl.1 (Nat.le_of_ble_eq_true rfl) dL_isTold_105 ⟨Nat.le_of_ble_eq_true rfl, Nat.le_of_ble_eq_true rfl⟩ (fun r_105 xa1 G1 H locs hp hW => ?_)
          obtain ⟨hgk, xb1, τ1, hag1, hu, hL1, hT1, hans⟩ := hp
          have hu2 : G1 = _ := congrArg Prod.snd hu
          subst hu2
          have hu1 : xb1 = xa1 := (congrArg Prod.fst hu).symm
          subst hu1
          have hl : lv_has ls 12 [(0, .ref (xb1 0 0)), (1, .ref (xb1 43 0)), (2, .ref (xb1 44 0)), (3, .ref (xb1 45 0)), (4, .int (nI (way))), (5, .int (nI (z))), (6, .int (nI (t))), (7, .int (nI (b0))), (8, .int (nI (1))), (9, .int (nI (0)))] := by rw [hag1 0 0 (by omega), hag1 43 0 (by omega), hag1 44 0 (by omega), hag1 45 0 (by omega)]; exact hl
          have hI1 : LI (t_mark σ (nI (t)) (nI (b0)) 1 0) := LI_mark hI hgk
          rw [xn_nI (n := t) (by omega), xn_nI (n := b0) (by omega)] at hans
          have e_105 := hans.uniq (tv.zero (P := σ 9 t / 2 ^ b0 % 2 = 1) (by omega)) Iff.rfl
          subst e_105
          show W _ _ _ _ _ _ _ _ _ _ _ _ _ _ _ (F0 _ 108 ls [.int (nI (0))])
          refine lv_iload hx hb dL_isTold_108 (lv_at hl 9 rfl) ?_
          refine lv_icmp_ne (tgt := 117) hx hb dL_isTold_110 (by decide) (fun c_110 => ?_) (fun c_110 => ?_)
          · -- ne taken
            exact absurd (by decide) c_110
          · -- ne not
            refine lv_iconst (v := nI (1)) hx hb dL_isTold_113 (by decide +kernel) ?_
            refine lv_goto (tgt := 118) hx hb dL_isTold_114 (by decide) ?_
            have hW : xW D sa A s xb1 (xGs (LG D (t_mark σ (nI (t)) (nI (b0)) 1 0)) D xb1 (t_mark σ (nI (t)) (nI (b0)) 1 0) τ1) H locs := hW.eqG (congrArg (fun g => xGs g D xb1 (t_mark σ (nI (t)) (nI (b0)) 1 0) τ1) (LG_mark1 (D := D) b_t b_b0)).symm
            exact xe_i hx hb hr rfl hlocks hW ⟨_, hI1, xb1, τ1, hag1, rfl, hL1, hT1, rfl⟩ (Nat.le_of_ble_eq_true rfl) (Nat.le_of_ble_eq_true rfl) dL_isTold_118
      · -- ne not
        have c_49 := (x_eqN (a := ((σ 9 t) / 2 ^ b0) % 2) (b := 1) (by omega) (by omega)).mp c_49
        refine lv_iconst (v := nI (1)) hx hb dL_isTold_52 (by decide +kernel) ?_
        refine lv_goto (tgt := 57) hx hb dL_isTold_53 (by decide) ?_
        refine lv_istore (lv' := [(9, .int (nI (1))), (0, .ref (xa 0 0)), (1, .ref (xa 43 0)), (2, .ref (xa 44 0)), (3, .ref (xa 45 0)), (4, .int (nI (way))), (5, .int (nI (z))), (6, .int (nI (t))), (7, .int (nI (b0))), (8, .int (nI (1)))]) hx hb dL_isTold_57 hl (by decide) rfl (fun ls hl => ?_)
        have hl : lv_has ls 12 [(0, .ref (xa 0 0)), (1, .ref (xa 43 0)), (2, .ref (xa 44 0)), (3, .ref (xa 45 0)), (4, .int (nI (way))), (5, .int (nI (z))), (6, .int (nI (t))), (7, .int (nI (b0))), (8, .int (nI (1))), (9, .int (nI (1)))] := lv_sub hl [1, 2, 3, 4, 5, 6, 7, 8, 9, 0] rfl
        refine lv_aload_n hx hb dL_isTold_59 rfl (lv_at hl 1 rfl) ?_
        refine lv_iconst (v := nI (2)) hx hb dL_isTold_60 (by decide +kernel) ?_
        refine lv_iload hx hb dL_isTold_61 (lv_at hl 6 rfl) ?_
        refine lv_imul hx hb dL_isTold_63 ?_
        rw [pk_mul]
        refine lv_iload hx hb dL_isTold_64 (lv_at hl 8 rfl) ?_
        refine lv_if_eq (tgt := 83) hx hb dL_isTold_66 (by decide) (fun c_66 => ?_) (fun c_66 => ?_)
        · -- eq taken
          exact absurd c_66 (by decide)
        · -- eq not
          refine lv_aload_n hx hb dL_isTold_69 rfl (lv_at hl 1 rfl) ?_
          refine lv_iconst (v := nI (2)) hx hb dL_isTold_70 (by decide +kernel) ?_
          refine lv_iload hx hb dL_isTold_71 (lv_at hl 6 rfl) ?_
          refine lv_imul hx hb dL_isTold_73 ?_
          rw [pk_mul]
          refine x_ild hx hb hW 43 0 (LA_43 LA_x) (2 * t) rfl (by omega) (by omega) (v := nI (σ 9 t)) ((congrArg nI (tv_0 σ t))) dL_isTold_74 ?_
          have b_74 := hB 9 t
          refine lv_iconst (v := nI (1)) hx hb dL_isTold_75 (by decide +kernel) ?_
          refine lv_iload hx hb dL_isTold_76 (lv_at hl 7 rfl) ?_
          refine lv_ishl hx hb dL_isTold_78 ?_
          rw [bt_shl (b := b0) (by omega)]
          refine lv_ior hx hb dL_isTold_79 ?_
          rw [nI_or]
          refine lv_goto (tgt := 97) hx hb dL_isTold_80 (by decide) ?_
          refine x_ist hx hb hW 43 0 (LA_43 LA_x) (2 * t) rfl (by omega) (by omega) dL_isTold_97 fun H locs hW => ?_
          have hW : xW D sa A s xa (xGs (LGf D (pf σ) (hf σ) (wf σ) (upd (tf σ) (2 * t) (nI ((σ 9 t) ||| (2 ^ b0)))) (cf σ) (mf σ)) D xa σ τ) H locs := hW.eqG (LG_up (by omega) (LG_t _)).symm
          refine lv_aload_n hx hb dL_isTold_98 rfl (lv_at hl 0 rfl) ?_
          refine lv_iload hx hb dL_isTold_99 (lv_at hl 6 rfl) ?_
          refine lv_iload hx hb dL_isTold_101 (lv_at hl 7 rfl) ?_
          refine lv_iload hx hb dL_isTold_103 (lv_at hl 8 rfl) ?_
          refine yg_i (k := 0) (i := 0) (As := [.int (nI (t)), .int (nI (b0)), .int (nI (1))]) (rest := []) ⟨hx, hb, hml, hown, hts⟩ (c_X4_mark l hst0 D sa xa (LGf D (pf σ) (hf σ) (wf σ) (upd (tf σ) (2 * t) (nI ((σ 9 t) ||| (2 ^ b0)))) (cf σ) (mf σ)) σ τ hg hL hT (nI (t)) (nI (b0)) 1 (by decide)) (fun E => pxk_no (pT_of (i := t) (by omega) (by omega)) (rg_of (n := b0) (by omega) (by omega) (by omega)) trivial) (cwV 3 hts gL_isTold_X4_mark rfl rfl rfl (by decide +kernel) ⟨Nat.le_of_ble_eq_true rfl, Nat.le_of_ble_eq_true rfl⟩) hW (xg_x (LGf D (pf σ) (hf σ) (wf σ) (upd (tf σ) (2 * t) (nI ((σ 9 t) ||| (2 ^ b0)))) (cf σ) (mf σ)) D xa σ τ) rfl rfl rfl rfl hl.1 (Nat.le_of_ble_eq_true rfl) dL_isTold_105 ⟨Nat.le_of_ble_eq_true rfl, Nat.le_of_ble_eq_true rfl⟩ (fun r_105 xa1 G1 H locs hp hW => ?_)
          obtain ⟨hgk, xb1, τ1, hag1, hu, hL1, hT1, hans⟩ := hp
          have hu2 : G1 = _ := congrArg Prod.snd hu
          subst hu2
          have hu1 : xb1 = xa1 := (congrArg Prod.fst hu).symm
          subst hu1
          have hl : lv_has ls 12 [(0, .ref (xb1 0 0)), (1, .ref (xb1 43 0)), (2, .ref (xb1 44 0)), (3, .ref (xb1 45 0)), (4, .int (nI (way))), (5, .int (nI (z))), (6, .int (nI (t))), (7, .int (nI (b0))), (8, .int (nI (1))), (9, .int (nI (1)))] := by rw [hag1 0 0 (by omega), hag1 43 0 (by omega), hag1 44 0 (by omega), hag1 45 0 (by omega)]; exact hl
          have hI1 : LI (t_mark σ (nI (t)) (nI (b0)) 1 0) := LI_mark hI hgk
          rw [xn_nI (n := t) (by omega), xn_nI (n := b0) (by omega)] at hans
          have e_105 := hans.uniq (tv.one (P := σ 9 t / 2 ^ b0 % 2 = 1) (by omega)) Iff.rfl
          subst e_105
          show W _ _ _ _ _ _ _ _ _ _ _ _ _ _ _ (F0 _ 108 ls [.int (nI (1))])
          refine lv_iload hx hb dL_isTold_108 (lv_at hl 9 rfl) ?_
          refine lv_icmp_ne (tgt := 117) hx hb dL_isTold_110 (by decide) (fun c_110 => ?_) (fun c_110 => ?_)
          · -- ne taken
            exact absurd (by decide) c_110
          · -- ne not
            refine lv_iconst (v := nI (1)) hx hb dL_isTold_113 (by decide +kernel) ?_
            refine lv_goto (tgt := 118) hx hb dL_isTold_114 (by decide) ?_
            have hW : xW D sa A s xb1 (xGs (LG D (t_mark σ (nI (t)) (nI (b0)) 1 0)) D xb1 (t_mark σ (nI (t)) (nI (b0)) 1 0) τ1) H locs := hW.eqG (congrArg (fun g => xGs g D xb1 (t_mark σ (nI (t)) (nI (b0)) 1 0) τ1) (LG_mark1 (D := D) b_t b_b0)).symm
            exact xe_i hx hb hr rfl hlocks hW ⟨_, hI1, xb1, τ1, hag1, rfl, hL1, hT1, rfl⟩ (Nat.le_of_ble_eq_true rfl) (Nat.le_of_ble_eq_true rfl) dL_isTold_118
