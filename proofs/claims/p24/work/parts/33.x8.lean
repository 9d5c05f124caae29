theorem pigeon : ∀ (n : Nat) (f : Nat → Nat), (∀ k, k < n + 1 → f k < n) → ∃ a b, a < b ∧ b < n + 1 ∧ f a = f b
  | 0, f, h => absurd (h 0 (by omega)) (by omega)
  | n + 1, f, h => by
    by_cases hl : f (n + 1) = n
    · by_cases hx : ∃ k, k < n + 1 ∧ f k = n
      · obtain ⟨k, h1, h2⟩ := hx
        exact ⟨k, n + 1, by omega, by omega, by rw [h2, hl]⟩
      · obtain ⟨a, b, h1, h2, h3⟩ := pigeon n f (fun k hk => by
          have h4 := h k (by omega)
          have h5 : f k ≠ n := fun h6 => hx ⟨k, hk, h6⟩
          omega)
        exact ⟨a, b, h1, by omega, h3⟩
    · have hl2 := h (n + 1) (by omega)
      obtain ⟨a, b, h1, h2, h3⟩ := pigeon n (fun k => if f k = n then f (n + 1) else f k) (fun k hk => by
        try dsimp only
        have h4 := h k (by omega)
        split <;> omega)
      try dsimp only at h3
      by_cases ha : f a = n <;> by_cases hb : f b = n
      · exact ⟨a, b, h1, by omega, by rw [ha, hb]⟩
      · rw [if_pos ha, if_neg hb] at h3
        exact ⟨b, n + 1, by omega, by omega, h3.symm⟩
      · rw [if_neg ha, if_pos hb] at h3
        exact ⟨a, n + 1, by omega, by omega, h3⟩
      · rw [if_neg ha, if_neg hb] at h3
        exact ⟨a, b, h1, by omega, h3⟩
/-- who has told eleven heirs has told everybody else -/
theorem told_all {σ : Sg} (hg : Gd σ) {i h : Nat} (hi : i < σ 5 0) (hh : h < σ 5 0) (hne : i ≠ h) (h11 : 11 ≤ σ 4 i) : hH σ i h := by
  have h5 := hg.2.1.1
  obtain ⟨-, -, -, b4, b5⟩ := hg.2.2.1 i hi
  refine Classical.byContradiction fun hno => ?_
  have nh : ∀ k, k < 11 → σ 3 (12 * i + k) ≠ h := fun k hk he => hno ⟨k, by omega, he⟩
  obtain ⟨a, b, h1, h2, h3⟩ := pigeon 10 (fun k => if σ 3 (12 * i + k) < min i h then σ 3 (12 * i + k) else if σ 3 (12 * i + k) < max i h then σ 3 (12 * i + k) - 1 else σ 3 (12 * i + k) - 2) (fun k hk => by
    try dsimp only
    have h6 := b4 k (by omega)
    have h7 := nh k hk
    split
    · omega
    · split <;> omega)
  try dsimp only at h3
  have a6 := b4 a (by omega)
  have a7 := nh a (by omega)
  have c6 := b4 b (by omega)
  have c7 := nh b (by omega)
  have hab := b5 a b (by omega) (by omega)
  have : σ 3 (12 * i + a) = σ 3 (12 * i + b) := by
    split at h3 <;> split at h3 <;> (try split at h3) <;> (try split at h3) <;> omega
  have := hab this
  omega
theorem xf_heir (G0 : xG) (D : xD) (xa : xA) {σ : Sg} {τ : Tg} (hm : ∀ i, σ 4 i < 12) {i h : Nat} (hi : i < σ 5 0) : xup (xup (xGs G0 D xa σ τ) 11 i (.inl (D.2 0, 11, .inr (.inr (.inr (.inr (va_up (fun j => if j < σ 4 i then some (xa 10 (σ 3 (12 * i + j))) else none) (σ 4 i) (some (xa 10 h))))))))) 10 i (.inr (1, (pfs xa σ τ i).set 4 (.int (nI (σ 4 i + 1))))) = xGs G0 D xa (sup (sup σ 3 (12 * i + σ 4 i) h) 4 i (σ 4 i + 1)) τ := by
  have e3 : ∀ q, sup (sup σ 3 (12 * i + σ 4 i) h) 4 i (σ 4 i + 1) 3 q = if q = 12 * i + σ 4 i then h else σ 3 q := by
    intro q
    show sup σ 3 (12 * i + σ 4 i) h 3 q = _
    by_cases hq : q = 12 * i + σ 4 i
    · rw [if_pos hq, hq, sup_self]
    · rw [if_neg hq, sup_ne _ (by omega)]
  have e4 : ∀ q, q ≠ i → sup (sup σ 3 (12 * i + σ 4 i) h) 4 i (σ 4 i + 1) 4 q = σ 4 q := fun q hq => (sup_ne _ (fun hz => hq hz.2)).trans rfl
  have e4s : sup (sup σ 3 (12 * i + σ 4 i) h) 4 i (σ 4 i + 1) 4 i = σ 4 i + 1 := sup_self _ _ _ _
  funext k' i'
  by_cases h1 : k' = 10 ∧ i' = i
  · obtain ⟨rfl, rfl⟩ := h1
    rw [xup_self, xg_p G0 D xa (sup (sup σ 3 (12 * i' + σ 4 i') h) 4 i' (σ 4 i' + 1)) τ hi]
    unfold pfs
    rw [e4s]
    rfl
  · rw [xup_ne _ _ h1]
    by_cases h2 : k' = 11 ∧ i' = i
    · obtain ⟨rfl, rfl⟩ := h2
      rw [xup_self, xg_h G0 D xa (sup (sup σ 3 (12 * i' + σ 4 i') h) 4 i' (σ 4 i' + 1)) τ hi]
      unfold rfs
      refine congrArg (fun f => (some (.inl (D.2 0, 11, .inr (.inr (.inr (.inr f))))) : Option va_E)) (funext fun j => ?_)
      rw [e4s, e3]
      unfold va_up
      by_cases hj : j = σ 4 i'
      · rw [if_pos hj, if_pos (by omega), if_pos (by omega)]
      · rw [if_neg hj]
        try dsimp only
        by_cases hj2 : j < σ 4 i'
        · rw [if_pos hj2, if_pos (by omega), if_neg (by omega)]
        · rw [if_neg hj2, if_neg (by omega)]
    · rw [xup_ne _ _ h2]
      unfold xGs
      split
      · unfold xE
        split
        case h_6 => 
          have hq : i' ≠ i := fun hz => h1 ⟨rfl, hz⟩
          unfold pfs
          rw [e4 i' hq]
          rfl
        case h_7 =>
          have hq : i' ≠ i := fun hz => h2 ⟨rfl, hz⟩
          rw [e4 i' hq]
          have hf : (fun j => if j < σ 4 i' then some (xa 10 (σ 3 (12 * i' + j))) else none) = (fun j => if j < σ 4 i' then some (xa 10 (sup (sup σ 3 (12 * i + σ 4 i) h) 4 i (σ 4 i + 1) 3 (12 * i' + j))) else none) := by
            funext j
            by_cases hj : j < σ 4 i'
            · have h3 := hm i'
              have h4 := hm i
              rw [if_pos hj, if_pos hj, e3, if_neg (by omega)]
            · rw [if_neg hj, if_neg hj]
          rw [hf]
          rfl
        all_goals rfl
      · rfl

set_option maxHeartbeats 4000000 in
set_option maxRecDepth 100000 in
theorem c_X4_mark (l : Launch) (hst0 : l.stackTraces = false) (D : xD) (sa : Nat → Nat) (xa : xA) (G0 : xG) (σ : Sg) (τ : Tg) (hg : Gd σ) (hL : LL σ τ) (hT : TE σ τ) (t b : Int32) (bn : Nat) (hbn : bn < 2) : xXi l yX4_mark wsX4_mark ({ frames := 14, cells := 2, slots := 12, locals := 400 } : Room) D sa xa (xGs G0 D xa σ τ) [.ref (xa 0 0), .int t, .int b, .int (nI bn)] (fun r u => (gk (pT σ t) (rg b 0 15) True) 0 ∧ xPo D xa G0 (t_mark σ t b bn 0) (tv r (σ 9 (xn t) / 2 ^ (xn b) % 2 = 1)) u) (pxk (gk (pT σ t) (rg b 0 15) True) xIob xIae xIae) 2 12 := by
  have hB := hg.1
  have h5 := hg.2.1.1
  have h7 := hg.2.1.2.1
  have h12 := hg.2.1.2.2.1
  have hy0 := hg.2.1.2.2.2.1
  have hy1 := hg.2.1.2.2.2.2
  have hm := hg.hm
  have hs8 := hg.hs8
  intro sz
  refine vx_ofW (cc := cX4_mark) (maxL := 7) (ret := (some .boolean)) (by decide +kernel) rfl ?_
  intro p e s m args below meth c s₁ B hml hout hv
  obtain ⟨rfl, hsz, hv2⟩ := hv
  subst hsz
  have hx := B.exec
  have hb := B.bytes
  have hr := B.returns
  have hts := atoms_spec (ws := wsX4_mark) B.pre
  have hown : s.vm.findClass RX4 = some m.cls := findClass_of_methodNamed B.named
  have hlocks := B.notSynchronized
  have hin3 : ∀ w ∈ wsX30, w ∈ wsX4_mark := by decide +kernel
  have hin4 : ∀ w ∈ wsX40, w ∈ wsX4_mark := by decide +kernel
  have hW := xW.start (s := s) ⟨rfl, hv2⟩
  clear hv2
  generalize xAw xa (xGs G0 D xa σ τ) s.heap.size = A at hW ⊢
  have hl := lv_entry ([.ref (xa 0 0), .int (t), .int (b), .int (nI (bn))]) (n := 7) (Nat.le_of_ble_eq_true rfl)
  rw [lg_entry_eq]
  generalize (lg_sl ([.ref (xa 0 0), .int (t), .int (b), .int (nI (bn))]) ++ List.replicate (7 - (lg_sl ([.ref (xa 0 0), .int (t), .int (b), .int (nI (bn))])).length) Slot.unset).toArray = ls at hl ⊢
  have hl : lv_has ls 7 [(0, .ref (xa 0 0)), (1, .int (t)), (2, .int (b)), (3, .int (nI (bn)))] := hl
  refine lv_aload_n hx hb dX4_mark_0 rfl (lv_at hl 0 rfl) ?_
  refine lv_iload_n hx hb dX4_mark_1 rfl (lv_at hl 1 rfl) ?_
  refine yv_r (k := 0) (i := 0) (As := [.int (t)]) (rest := []) ⟨hx, hb, hml, hown, hts⟩ (c_X4_thingNumbered l hst0 D sa xa G0 σ τ hg hL t) (cwV 1 hts gX4_mark_X4_thingNumbered rfl rfl rfl (by decide +kernel) ⟨Nat.le_of_ble_eq_true rfl, Nat.le_of_ble_eq_true rfl⟩) ⟨hout, hlocks⟩ (fun E h => px1 h.2 h.1) ⟨Nat.le_of_ble_eq_true rfl, Nat.le_of_ble_eq_true rfl⟩ hW (xg_x G0 D xa σ τ) rfl rfl rfl rfl hl.1 (Nat.le_of_ble_eq_true rfl) dX4_mark_2 ⟨Nat.le_of_ble_eq_true rfl, Nat.le_of_ble_eq_true rfl⟩ (fun r_2 xa1 G1 H locs hp hW => ?_)
  obtain ⟨ti, hti, rfl, ha_2, hu⟩ := hp
  cases hu
  subst ha_2
  refine lv_astore (lv' := [(4, .ref (xa 13 ti)), (0, .ref (xa 0 0)), (1, .int (nI (ti))), (2, .int (b)), (3, .int (nI (bn)))]) hx hb dX4_mark_5 hl (by decide) rfl (fun ls hl => ?_)
  have hl : lv_has ls 7 [(0, .ref (xa 0 0)), (1, .int (nI (ti))), (2, .int (b)), (3, .int (nI (bn))), (4, .ref (xa 13 ti))] := lv_sub hl [1, 2, 3, 4, 0] rfl
  refine lv_iload_n hx hb dX4_mark_7 rfl (lv_at hl 2 rfl) ?_
  refine lv_iconst (v := nI (0)) hx hb dX4_mark_8 (by decide +kernel) ?_
  refine lv_bipush (v := nI (15)) hx hb dX4_mark_9 (by decide +kernel) ?_
  refine ys_v (As := [.int (b), .int (nI (0)), .int (nI (15))]) (rest := []) ⟨hx, hb, hml, hown, hts⟩ (c_X4_requireRange l hst0 D sa xa (xGs G0 D xa σ τ) b (nI (0)) (nI (15))) (va_cwS 3 hts gX4_mark_X4_requireRange rfl rfl rfl (by decide +kernel) ⟨Nat.le_of_ble_eq_true rfl, Nat.le_of_ble_eq_true rfl⟩) ⟨hout, hlocks⟩ (fun E h => px2 (pT_of hti h12) (fun hh => h.2 ((rg_in (by omega) (by omega)).mpr hh)) h.1) ⟨Nat.le_of_ble_eq_true rfl, Nat.le_of_ble_eq_true rfl⟩ hW rfl rfl hl.1 (Nat.le_of_ble_eq_true rfl) dX4_mark_11 ⟨Nat.le_of_ble_eq_true rfl, Nat.le_of_ble_eq_true rfl⟩ (fun xa1 G1 H locs hp hW => ?_)
  obtain ⟨hu, hq_11⟩ := hp
  cases hu
  have hRb := (rg_in (a := 0) (b := 15) (by omega) (by omega)).mp hq_11
  have hz := hRb
  unfold rg at hz
  obtain ⟨bi, hbi, rfl⟩ := x_nat (n := 16) (x := b) (by omega) (by omega)
  refine lv_iconst (v := nI (1)) hx hb dX4_mark_14 (by decide +kernel) ?_
  refine lv_iload_n hx hb dX4_mark_15 rfl (lv_at hl 2 rfl) ?_
  refine lv_ishl hx hb dX4_mark_16 ?_
  rw [bt_shl (b := bi) (by omega)]
  refine lv_istore (lv' := [(5, .int (nI (2 ^ bi))), (0, .ref (xa 0 0)), (1, .int (nI (ti))), (2, .int (nI (bi))), (3, .int (nI (bn))), (4, .ref (xa 13 ti))]) hx hb dX4_mark_17 hl (by decide) rfl (fun ls hl => ?_)
  have hl : lv_has ls 7 [(0, .ref (xa 0 0)), (1, .int (nI (ti))), (2, .int (nI (bi))), (3, .int (nI (bn))), (4, .ref (xa 13 ti)), (5, .int (nI (2 ^ bi)))] := lv_sub hl [1, 2, 3, 4, 5, 0] rfl
  refine x_joinW (ls := ls) (D := D) (sa := sa) (A := A) (xa := xa) (G := xGs G0 D xa σ τ) (P := σ 9 ti / 2 ^ bi % 2 = 1) (mpc := 35) (rest := []) (fun H locs r_35 hW h_35 => ?_) (fun J35 => ?_)
  ·
    refine lv_istore (lv' := [(6, .int (r_35)), (0, .ref (xa 0 0)), (1, .int (nI (ti))), (2, .int (nI (bi))), (3, .int (nI (bn))), (4, .ref (xa 13 ti)), (5, .int (nI (2 ^ bi)))]) hx hb dX4_mark_35 hl (by decide) rfl (fun ls hl => ?_)
    have hl : lv_has ls 7 [(0, .ref (xa 0 0)), (1, .int (nI (ti))), (2, .int (nI (bi))), (3, .int (nI (bn))), (4, .ref (xa 13 ti)), (5, .int (nI (2 ^ bi))), (6, .int (r_35))] := lv_sub hl [1, 2, 3, 4, 5, 6, 0] rfl
    refine lv_aload hx hb dX4_mark_37 (lv_at hl 4 rfl) ?_
    refine lv_iload_n hx hb dX4_mark_39 rfl (lv_at hl 3 rfl) ?_
    refine lv_if_eq (tgt := 54) hx hb dX4_mark_40 (by decide) (fun c_40 => ?_) (fun c_40 => ?_)
    · -- eq taken
      have c_40 := (x_eqZ (a := bn) (by omega)).mp c_40
      refine lv_aload hx hb dX4_mark_54 (lv_at hl 4 rfl) ?_
      refine x_get hx hb hts hin3 hown hW 13 ti (xg_t G0 D xa σ τ (i := ti) (by omega)) rfl 0 (by decide) (hts (.fieldLink RX4 105 "Restitutory$Thing" "marks" "I") (by decide +kernel)) rfl (v := .int (nI (σ 9 ti))) (rfl) dX4_mark_56 ?_
      have b_56 := hB 9 ti
      refine lv_iload hx hb dX4_mark_59 (lv_at hl 5 rfl) ?_
      refine lv_iconst (v := -1) hx hb dX4_mark_61 (by decide +kernel) ?_
      refine lv_ixor hx hb dX4_mark_62 ?_
      rw [bt_m1, nI_xor]
      refine lv_iand hx hb dX4_mark_63 ?_
      rw [nI_and, bt_clr (hB 9 ti)]
      refine x_put (ty := .int) (v := .int (nI (σ 9 ti &&& (65535 ^^^ 2 ^ bi)))) hx hb hts hin3 tyX3 tyX3_ok nmX3 hown hW 13 (ti) (fs := tfs xa σ τ (ti)) (xg_t G0 D xa σ τ (i := ti) (by omega)) rfl 0 (by decide) (hts (.fieldLink RX4 105 "Restitutory$Thing" "marks" "I") (by decide +kernel)) rfl rfl (by decide +kernel) rfl rfl (Nat.le_of_ble_eq_true rfl) dX4_mark_64 fun H locs hW => ?_
      have hW := hW.eqG (xf_marks G0 D xa (σ := σ) (τ := τ) (i := ti) (v := σ 9 ti &&& (65535 ^^^ 2 ^ bi)) (by omega)).symm
      refine lv_iload hx hb dX4_mark_67 (lv_at hl 6 rfl) ?_
      exact ye_i hx hb hr h_35.nar hlocks hW ⟨gk.mk0 (pT_of hti h12) hRb trivial, xa, τ, fun _ _ _ => rfl, by rw [show t_mark σ (nI ti) (nI bi) bn 0 = sup σ 9 ti (σ 9 ti &&& (65535 ^^^ 2 ^ bi)) by unfold t_mark mkv; simp only [if_true, xn_nI (n := ti) (by omega), xn_nI (n := bi) (by omega)]; rw [if_pos c_40]], hL, hT, by rw [xn_nI (by omega), xn_nI (by omega)]; exact h_35⟩ (Nat.le_of_ble_eq_true rfl) (Nat.le_of_ble_eq_true rfl) dX4_mark_69
    · -- eq not
      have c_40 : ¬ (bn = 0) := fun h_ => c_40 ((x_eqZ (a := bn) (by omega)).mpr h_)
      refine lv_aload hx hb dX4_mark_43 (lv_at hl 4 rfl) ?_
      refine x_get hx hb hts hin3 hown hW 13 ti (xg_t G0 D xa σ τ (i := ti) (by omega)) rfl 0 (by decide) (hts (.fieldLink RX4 105 "Restitutory$Thing" "marks" "I") (by decide +kernel)) rfl (v := .int (nI (σ 9 ti))) (rfl) dX4_mark_45 ?_
      have b_45 := hB 9 ti
      refine lv_iload hx hb dX4_mark_48 (lv_at hl 5 rfl) ?_
      refine lv_ior hx hb dX4_mark_50 ?_
      rw [nI_or]
      refine lv_goto (tgt := 64) hx hb dX4_mark_51 (by decide) ?_
      refine x_put (ty := .int) (v := .int (nI ((σ 9 ti) ||| (2 ^ bi)))) hx hb hts hin3 tyX3 tyX3_ok nmX3 hown hW 13 (ti) (fs := tfs xa σ τ (ti)) (xg_t G0 D xa σ τ (i := ti) (by omega)) rfl 0 (by decide) (hts (.fieldLink RX4 105 "Restitutory$Thing" "marks" "I") (by decide +kernel)) rfl rfl (by decide +kernel) rfl rfl (Nat.le_of_ble_eq_true rfl) dX4_mark_64 fun H locs hW => ?_
      have hW := hW.eqG (xf_marks G0 D xa (σ := σ) (τ := τ) (i := ti) (v := (σ 9 ti) ||| (2 ^ bi)) (by omega)).symm
      refine lv_iload hx hb dX4_mark_67 (lv_at hl 6 rfl) ?_
      exact ye_i hx hb hr h_35.nar hlocks hW ⟨gk.mk0 (pT_of hti h12) hRb trivial, xa, τ, fun _ _ _ => rfl, by rw [show t_mark σ (nI ti) (nI bi) bn 0 = sup σ 9 ti ((σ 9 ti) ||| (2 ^ bi)) by unfold t_mark mkv; simp only [if_true, xn_nI (n := ti) (by omega), xn_nI (n := bi) (by omega)]; rw [if_neg c_40]], hL, hT, by rw [xn_nI (by omega), xn_nI (by omega)]; exact h_35⟩ (Nat.le_of_ble_eq_true rfl) (Nat.le_of_ble_eq_true rfl) dX4_mark_69
  ·
    refine lv_aload hx hb dX4_mark_19 (lv_at hl 4 rfl) ?_
    refine x_get hx hb hts hin3 hown hW 13 ti (xg_t G0 D xa σ τ (i := ti) (by omega)) rfl 0 (by decide) (hts (.fieldLink RX4 105 "Restitutory$Thing" "marks" "I") (by decide +kernel)) rfl (v := .int (nI (σ 9 ti))) (rfl) dX4_mark_21 ?_
    have b_21 := hB 9 ti
    refine lv_iload hx hb dX4_mark_24 (lv_at hl 5 rfl) ?_
    refine lv_iand hx hb dX4_mark_26 ?_
    rw [nI_and]
    obtain ⟨q, hq⟩ : ∃ q, q = σ 9 ti &&& 2 ^ bi := ⟨_, rfl⟩
    have hqb : q < 65536 := by rw [hq]; exact Nat.lt_of_le_of_lt Nat.and_le_left (hB 9 ti)
    rw [← hq]
    refine lv_if_eq (tgt := 34) hx hb dX4_mark_27 (by decide) (fun c_27 => ?_) (fun c_27 => ?_)
    · -- eq taken
      have c_27 := (x_eqZ (a := q) (by omega)).mp c_27
      refine lv_iconst (v := nI (0)) hx hb dX4_mark_34 (by decide +kernel) ?_
      exact J35 _ _ _ hW (tv.zero (bt_test.mp (by rw [← hq]; exact c_27)))
    · -- eq not
      have c_27 : ¬ (q = 0) := fun h_ => c_27 ((x_eqZ (a := q) (by omega)).mpr h_)
      refine lv_iconst (v := nI (1)) hx hb dX4_mark_30 (by decide +kernel) ?_
      refine lv_goto (tgt := 35) hx hb dX4_mark_31 (by decide) ?_
      exact J35 _ _ _ hW (tv.one (Classical.byContradiction fun h_ => c_27 (by rw [hq]; exact bt_test.mpr h_)))

set_option maxHeartbeats 4000000 in
set_option maxRecDepth 100000 in
theorem c_X1_hasToldHeir (l : Launch) (D : xD) (sa : Nat → Nat) (xa : xA) (G0 : xG) (σ : Sg) (τ : Tg) (hg : Gd σ) (i h : Nat) (hi : i < σ 5 0) (hh : h < σ 5 0) : xCi l yX1_hasToldHeir wsX1_hasToldHeir ({ frames := 10, cells := 0, slots := 0, locals := 200 } : Room) D sa xa (xGs G0 D xa σ τ) [.ref (xa 10 i), .ref (xa 10 h)] (fun r u => u = (xa, xGs G0 D xa σ τ) ∧ tv r (hH σ i h)) 0 0 := by
  have hB := hg.1
  have h5 := hg.2.1.1
  have h7 := hg.2.1.2.1
  have h12 := hg.2.1.2.2.1
  have hy0 := hg.2.1.2.2.2.1
  have hy1 := hg.2.1.2.2.2.2
  have hm := hg.hm
  have hs8 := hg.hs8
  intro sz
  refine Met.ofW (cc := cX1_hasToldHeir) (maxL := 6) (ret := (some .boolean)) (by decide +kernel) rfl ?_
  intro p e s m args below meth c s₁ B hml hv
  obtain ⟨rfl, hsz, hv2⟩ := hv
  subst hsz
  have hx := B.exec
  have hb := B.bytes
  have hr := B.returns
  have hts := atoms_spec (ws := wsX1_hasToldHeir) B.pre
  have hown : s.vm.findClass RX1 = some m.cls := findClass_of_methodNamed B.named
  have hlocks := B.notSynchronized
  have hin1 : ∀ w ∈ wsX10, w ∈ wsX1_hasToldHeir := by decide +kernel
  have hW := xW.start (s := s) ⟨rfl, hv2⟩
  clear hv2
  generalize xAw xa (xGs G0 D xa σ τ) s.heap.size = A at hW ⊢
  have hl := lv_entry ([.ref (xa 10 i), .ref (xa 10 h)]) (n := 6) (Nat.le_of_ble_eq_true rfl)
  rw [lg_entry_eq]
  generalize (lg_sl ([.ref (xa 10 i), .ref (xa 10 h)]) ++ List.replicate (6 - (lg_sl ([.ref (xa 10 i), .ref (xa 10 h)])).length) Slot.unset).toArray = ls at hl ⊢
  have hl : lv_has ls 6 [(0, .ref (xa 10 i)), (1, .ref (xa 10 h))] := hl
  refine lv_aload_n hx hb dX1_hasToldHeir_0 rfl (lv_at hl 0 rfl) ?_
  refine x_get hx hb hts hin1 hown hW 10 i (xg_p G0 D xa σ τ (i := i) (by omega)) rfl 3 (by decide) (hts (.fieldLink RX1 11 "Restitutory$Person" "heirs" "[LRestitutory$Person;") (by decide +kernel)) rfl (v := .ref (xa 11 i)) (rfl) dX1_hasToldHeir_1 ?_
  refine lv_astore_n (lv' := [(2, .ref (xa 11 i)), (0, .ref (xa 10 i)), (1, .ref (xa 10 h))]) hx hb dX1_hasToldHeir_4 rfl hl (by decide) rfl (fun ls hl => ?_)
  have hl : lv_has ls 6 [(0, .ref (xa 10 i)), (1, .ref (xa 10 h)), (2, .ref (xa 11 i))] := lv_sub hl [1, 2, 0] rfl
  refine lv_aload_n hx hb dX1_hasToldHeir_5 rfl (lv_at hl 2 rfl) ?_
  refine x_len hx hb hW 11 i 0 rfl (xg_h G0 D xa σ τ (i := i) (by omega)) (v := nI 11) rfl dX1_hasToldHeir_6 ?_
  refine lv_istore_n (lv' := [(3, .int (nI (11))), (0, .ref (xa 10 i)), (1, .ref (xa 10 h)), (2, .ref (xa 11 i))]) hx hb dX1_hasToldHeir_7 rfl hl (by decide) rfl (fun ls hl => ?_)
  have hl : lv_has ls 6 [(0, .ref (xa 10 i)), (1, .ref (xa 10 h)), (2, .ref (xa 11 i)), (3, .int (nI (11)))] := lv_sub hl [1, 2, 3, 0] rfl
  refine lv_iconst (v := nI (0)) hx hb dX1_hasToldHeir_8 (by decide +kernel) ?_
  refine lv_istore (lv' := [(4, .int (nI (0))), (0, .ref (xa 10 i)), (1, .ref (xa 10 h)), (2, .ref (xa 11 i)), (3, .int (nI (11)))]) hx hb dX1_hasToldHeir_9 hl (by decide) rfl (fun ls hl => ?_)
  have hl : lv_has ls 6 [(0, .ref (xa 10 i)), (1, .ref (xa 10 h)), (2, .ref (xa 11 i)), (3, .int (nI (11))), (4, .int (nI (0)))] := lv_sub hl [1, 2, 3, 4, 0] rfl
  refine x_loop (X := Nat) (I := fun n xv H locs ls => n = 11 - xv ∧ xW D sa A s xa (xGs G0 D xa σ τ) H locs ∧ lv_has ls 6 [(0, .ref (xa 10 i)), (1, .ref (xa 10 h)), (2, .ref (xa 11 i)), (3, .int (nI (11))), (4, .int (nI (xv)))] ∧ (∀ j, j < xv → j < σ 4 i → ¬ σ 3 (12 * i + j) = h) ∧ (xv ≤ 11)) (hd := 11) ?_ (n := _) (x := (0)) ⟨rfl, hW, hl, fun j hj => by omega, by (try dsimp only); omega⟩
  rintro n k H locs ls ⟨hn, hW, hl, hno, hk⟩ ih11
  try dsimp only at hn hW hl hno hk
  refine lv_iload hx hb dX1_hasToldHeir_11 (lv_at hl 4 rfl) ?_
  refine lv_iload_n hx hb dX1_hasToldHeir_13 rfl (lv_at hl 3 rfl) ?_
  refine lv_icmp_ge (tgt := 37) hx hb dX1_hasToldHeir_14 (by decide) (fun c_14 => ?_) (fun c_14 => ?_)
  · -- ge taken
    have c_14 := Int32.le_iff_toInt_le.mp c_14
    rw [nI_toInt (n := k) (by omega)] at c_14
    rw [nI_toInt (n := 11) (by omega)] at c_14
    refine lv_iconst (v := nI (0)) hx hb dX1_hasToldHeir_37 (by decide +kernel) ?_
    exact xe_i hx hb hr rfl hlocks hW ⟨rfl, tv.zero (by rintro ⟨j, hj, h_⟩; have := hm i; exact hno j (by omega) hj h_)⟩ (Nat.le_of_ble_eq_true rfl) (Nat.le_of_ble_eq_true rfl) dX1_hasToldHeir_38
  · -- ge not
    have c_14 : ¬ ((nI (11)).toInt ≤ (nI (k)).toInt) := fun h => c_14 (Int32.le_iff_toInt_le.mpr h)
    rw [nI_toInt (n := k) (by omega)] at c_14
    rw [nI_toInt (n := 11) (by omega)] at c_14
    by_cases hkn : k < σ 4 i
    ·
      have hhr := hg.heir hi hkn
      refine lv_aload_n hx hb dX1_hasToldHeir_17 rfl (lv_at hl 2 rfl) ?_
      refine lv_iload hx hb dX1_hasToldHeir_18 (lv_at hl 4 rfl) ?_
      refine x_ald2 hx hb hW 11 i 0 rfl (xg_h G0 D xa σ τ (i := i) (by omega)) (k) (by omega) (by omega) (v := .ref (xa 10 (σ 3 (12 * i + k)))) (by show va_rf (if _ then _ else _) = _; rw [if_pos hkn]; rfl) dX1_hasToldHeir_20 ?_
      refine lv_astore (lv' := [(5, .ref (xa 10 (σ 3 (12 * i + k)))), (0, .ref (xa 10 i)), (1, .ref (xa 10 h)), (2, .ref (xa 11 i)), (3, .int (nI (11))), (4, .int (nI (k)))]) hx hb dX1_hasToldHeir_21 hl (by decide) rfl (fun ls hl => ?_)
      have hl : lv_has ls 6 [(0, .ref (xa 10 i)), (1, .ref (xa 10 h)), (2, .ref (xa 11 i)), (3, .int (nI (11))), (4, .int (nI (k))), (5, .ref (xa 10 (σ 3 (12 * i + k))))] := lv_sub hl [1, 2, 3, 4, 5, 0] rfl
      refine lv_aload hx hb dX1_hasToldHeir_23 (lv_at hl 5 rfl) ?_
      refine lv_aload_n hx hb dX1_hasToldHeir_25 rfl (lv_at hl 1 rfl) ?_
      refine lv_acmp_ne (rx := some (xa 10 (σ 3 (12 * i + k)))) (ry := some (xa 10 h)) (tgt := 31) hx hb dX1_hasToldHeir_26 (by decide) (fun c_26 => ?_) (fun c_26 => ?_)
      · -- acmpne taken
        have c_26m : ¬ σ 3 (12 * i + k) = h := fun h_ => c_26 (by rw [h_])
        refine lv_iinc (v := nI (k + 1)) (lv' := [(4, .int (nI (k + 1))), (0, .ref (xa 10 i)), (1, .ref (xa 10 h)), (2, .ref (xa 11 i)), (3, .int (nI (11))), (5, .ref (xa 10 (σ 3 (12 * i + k))))]) hx hb dX1_hasToldHeir_31 hl (k := 4) rfl (x_inc k 1 rfl) (by decide) rfl (fun ls hl => ?_)
        have hl : lv_has ls 6 [(0, .ref (xa 10 i)), (1, .ref (xa 10 h)), (2, .ref (xa 11 i)), (3, .int (nI (11))), (4, .int (nI (k + 1))), (5, .ref (xa 10 (σ 3 (12 * i + k))))] := lv_sub hl [1, 2, 3, 4, 0, 5] rfl
        refine lv_goto (tgt := 11) hx hb dX1_hasToldHeir_34 (by decide) ?_
        exact ih11 (11 - (k + 1)) (k + 1) _ _ _ (by omega) ⟨rfl, hW, lv_sub hl [0, 1, 2, 3, 4] rfl, fun j hj hj2 => by by_cases hjk : j = k; rw [hjk]; exact c_26m; exact hno j (by omega) hj2, by (try dsimp only); omega⟩
      · -- acmpne not
        have c_26m : σ 3 (12 * i + k) = h := (hW.inj (xg_p G0 D xa σ τ hhr) (xg_p G0 D xa σ τ hh) (Option.some.inj c_26)).2
        refine lv_iconst (v := nI (1)) hx hb dX1_hasToldHeir_29 (by decide +kernel) ?_
        exact xe_i hx hb hr rfl hlocks hW ⟨rfl, tv.one ⟨k, hkn, c_26m⟩⟩ (Nat.le_of_ble_eq_true rfl) (Nat.le_of_ble_eq_true rfl) dX1_hasToldHeir_30
    ·
      refine lv_aload_n hx hb dX1_hasToldHeir_17 rfl (lv_at hl 2 rfl) ?_
      refine lv_iload hx hb dX1_hasToldHeir_18 (lv_at hl 4 rfl) ?_
      refine x_ald2 hx hb hW 11 i 0 rfl (xg_h G0 D xa σ τ (i := i) (by omega)) (k) (by omega) (by omega) (v := .null) (by show va_rf (if _ then _ else _) = _; rw [if_neg hkn]; rfl) dX1_hasToldHeir_20 ?_
      refine lv_astoreN (lv' := [(5, .null), (0, .ref (xa 10 i)), (1, .ref (xa 10 h)), (2, .ref (xa 11 i)), (3, .int (nI (11))), (4, .int (nI (k)))]) hx hb dX1_hasToldHeir_21 hl (by decide) rfl (fun ls hl => ?_)
      have hl : lv_has ls 6 [(0, .ref (xa 10 i)), (1, .ref (xa 10 h)), (2, .ref (xa 11 i)), (3, .int (nI (11))), (4, .int (nI (k))), (5, .null)] := lv_sub hl [1, 2, 3, 4, 5, 0] rfl
      refine lv_aloadN hx hb dX1_hasToldHeir_23 (lv_at hl 5 rfl) ?_
      refine lv_aload_n hx hb dX1_hasToldHeir_25 rfl (lv_at hl 1 rfl) ?_
      refine lv_acmp_ne (rx := none) (ry := some (xa 10 h)) (tgt := 31) hx hb dX1_hasToldHeir_26 (by decide) (fun c_26 => ?_) (fun c_26 => ?_)
      · -- acmpne taken
        refine lv_iinc (v := nI (k + 1)) (lv' := [(4, .int (nI (k + 1))), (0, .ref (xa 10 i)), (1, .ref (xa 10 h)), (2, .ref (xa 11 i)), (3, .int (nI (11))), (5, .null)]) hx hb dX1_hasToldHeir_31 hl (k := 4) rfl (x_inc k 1 rfl) (by decide) rfl (fun ls hl => ?_)
        have hl : lv_has ls 6 [(0, .ref (xa 10 i)), (1, .ref (xa 10 h)), (2, .ref (xa 11 i)), (3, .int (nI (11))), (4, .int (nI (k + 1))), (5, .null)] := lv_sub hl [1, 2, 3, 4, 0, 5] rfl
        refine lv_goto (tgt := 11) hx hb dX1_hasToldHeir_34 (by decide) ?_
        exact ih11 (11 - (k + 1)) (k + 1) _ _ _ (by omega) ⟨rfl, hW, lv_sub hl [0, 1, 2, 3, 4] rfl, fun j hj hj2 => by by_cases hjk : j = k; rw [hjk]; omega; exact hno j (by omega) hj2, by (try dsimp only); omega⟩
      · -- acmpne not
        exact absurd c_26 (fun h_ => by cases h_)

set_option maxHeartbeats 4000000 in
set_option maxRecDepth 100000 in
theorem c_X4_heir (l : Launch) (hst0 : l.stackTraces = false) (D : xD) (sa : Nat → Nat) (xa : xA) (G0 : xG) (σ : Sg) (τ : Tg) (hg : Gd σ) (hL : LL σ τ) (hT : TE σ τ) (x y : Int32) : xXi l yX4_heir wsX4_heir ({ frames := 16, cells := 3, slots := 18, locals := 500 } : Room) D sa xa (xGs G0 D xa σ τ) [.ref (xa 0 0), .int x, .int y] (fun r u => (gk (pP σ x ∧ pP σ y) (¬ x.toInt = y.toInt) (¬ hH σ (xn x) (xn y))) 0 ∧ xPo D xa G0 (t_heir σ x y 0) (r.toInt = ((σ 4 (xn x) + 1 : Nat) : Int)) u) (pxk (gk (pP σ x ∧ pP σ y) (¬ x.toInt = y.toInt) (¬ hH σ (xn x) (xn y))) xIob xIae xIse) 3 18 := by
  have hB := hg.1
  have h5 := hg.2.1.1
  have h7 := hg.2.1.2.1
  have h12 := hg.2.1.2.2.1
  have hy0 := hg.2.1.2.2.2.1
  have hy1 := hg.2.1.2.2.2.2
  have hm := hg.hm
  have hs8 := hg.hs8
  intro sz
  refine vx_ofW (cc := cX4_heir) (maxL := 5) (ret := (some .int)) (by decide +kernel) rfl ?_
  intro p e s m args below meth c s₁ B hml hout hv
  obtain ⟨rfl, hsz, hv2⟩ := hv
  subst hsz
  have hx := B.exec
  have hb := B.bytes
  have hr := B.returns
  have hts := atoms_spec (ws := wsX4_heir) B.pre
  have hown : s.vm.findClass RX4 = some m.cls := findClass_of_methodNamed B.named
  have hlocks := B.notSynchronized
  have hin1 : ∀ w ∈ wsX10, w ∈ wsX4_heir := by decide +kernel
  have hin4 : ∀ w ∈ wsX40, w ∈ wsX4_heir := by decide +kernel
  have hW := xW.start (s := s) ⟨rfl, hv2⟩
  clear hv2
  generalize xAw xa (xGs G0 D xa σ τ) s.heap.size = A at hW ⊢
  have hl := lv_entry ([.ref (xa 0 0), .int (x), .int (y)]) (n := 5) (Nat.le_of_ble_eq_true rfl)
  rw [lg_entry_eq]
  generalize (lg_sl ([.ref (xa 0 0), .int (x), .int (y)]) ++ List.replicate (5 - (lg_sl ([.ref (xa 0 0), .int (x), .int (y)])).length) Slot.unset).toArray = ls at hl ⊢
  have hl : lv_has ls 5 [(0, .ref (xa 0 0)), (1, .int (x)), (2, .int (y))] := hl
  refine lv_aload_n hx hb dX4_heir_0 rfl (lv_at hl 0 rfl) ?_
  refine lv_iload_n hx hb dX4_heir_1 rfl (lv_at hl 1 rfl) ?_
  refine yv_r (k := 0) (i := 0) (As := [.int (x)]) (rest := []) ⟨hx, hb, hml, hown, hts⟩ (c_X4_personNumbered l hst0 D sa xa G0 σ τ hg hL x) (cwV 1 hts gX4_heir_X4_personNumbered rfl rfl rfl (by decide +kernel) ⟨Nat.le_of_ble_eq_true rfl, Nat.le_of_ble_eq_true rfl⟩) ⟨hout, hlocks⟩ (fun E h => px1 (fun hh => h.2 hh.1) h.1) ⟨Nat.le_of_ble_eq_true rfl, Nat.le_of_ble_eq_true rfl⟩ hW (xg_x G0 D xa σ τ) rfl rfl rfl rfl hl.1 (Nat.le_of_ble_eq_true rfl) dX4_heir_2 ⟨Nat.le_of_ble_eq_true rfl, Nat.le_of_ble_eq_true rfl⟩ (fun r_2 xa1 G1 H locs hp hW => ?_)
  obtain ⟨i, hi, rfl, ha_2, hu⟩ := hp
  cases hu
  subst ha_2
  refine lv_astore_n (lv' := [(3, .ref (xa 10 i)), (0, .ref (xa 0 0)), (1, .int (nI (i))), (2, .int (y))]) hx hb dX4_heir_5 rfl hl (by decide) rfl (fun ls hl => ?_)
  have hl : lv_has ls 5 [(0, .ref (xa 0 0)), (1, .int (nI (i))), (2, .int (y)), (3, .ref (xa 10 i))] := lv_sub hl [1, 2, 3, 0] rfl
  refine lv_aload_n hx hb dX4_heir_6 rfl (lv_at hl 0 rfl) ?_
  refine lv_iload_n hx hb dX4_heir_7 rfl (lv_at hl 2 rfl) ?_
  refine yv_r (k := 0) (i := 0) (As := [.int (y)]) (rest := []) ⟨hx, hb, hml, hown, hts⟩ (c_X4_personNumbered l hst0 D sa xa G0 σ τ hg hL y) (cwV 1 hts gX4_heir_X4_personNumbered rfl rfl rfl (by decide +kernel) ⟨Nat.le_of_ble_eq_true rfl, Nat.le_of_ble_eq_true rfl⟩) ⟨hout, hlocks⟩ (fun E h => px1 (fun hh => h.2 hh.2) h.1) ⟨Nat.le_of_ble_eq_true rfl, Nat.le_of_ble_eq_true rfl⟩ hW (xg_x G0 D xa σ τ) rfl rfl rfl rfl hl.1 (Nat.le_of_ble_eq_true rfl) dX4_heir_8 ⟨Nat.le_of_ble_eq_true rfl, Nat.le_of_ble_eq_true rfl⟩ (fun r_8 xa1 G1 H locs hp hW => ?_)
  obtain ⟨h, hh, rfl, ha_8, hu⟩ := hp
  cases hu
  subst ha_8
  refine lv_astore (lv' := [(4, .ref (xa 10 h)), (0, .ref (xa 0 0)), (1, .int (nI (i))), (2, .int (nI (h))), (3, .ref (xa 10 i))]) hx hb dX4_heir_11 hl (by decide) rfl (fun ls hl => ?_)
  have hl : lv_has ls 5 [(0, .ref (xa 0 0)), (1, .int (nI (i))), (2, .int (nI (h))), (3, .ref (xa 10 i)), (4, .ref (xa 10 h))] := lv_sub hl [1, 2, 3, 4, 0] rfl
  refine lv_aload_n hx hb dX4_heir_13 rfl (lv_at hl 3 rfl) ?_
  refine lv_aload hx hb dX4_heir_14 (lv_at hl 4 rfl) ?_
  refine lv_acmp_ne (rx := some (xa 10 i)) (ry := some (xa 10 h)) (tgt := 29) hx hb dX4_heir_16 (by decide) (fun c_16 => ?_) (fun c_16 => ?_)
  · -- acmpne taken
    have hne : ¬ i = h := fun h_ => c_16 (by rw [h_])
    have h4lt : σ 4 i < 12 := hm i
    refine lv_aload_n hx hb dX4_heir_29 rfl (lv_at hl 3 rfl) ?_
    refine lv_aload hx hb dX4_heir_30 (lv_at hl 4 rfl) ?_
    refine xv_i (k := 10) (i := i) (As := [.ref (xa 10 h)]) (rest := []) ⟨hx, hb, hml, hown, hts⟩ (c_X1_hasToldHeir l D sa xa G0 σ τ hg i h hi hh) (cwV 1 hts gX4_heir_X1_hasToldHeir rfl rfl rfl (by decide +kernel) ⟨Nat.le_of_ble_eq_true rfl, Nat.le_of_ble_eq_true rfl⟩) hW (xg_p G0 D xa σ τ (i := i) hi) rfl rfl rfl rfl hl.1 (Nat.le_of_ble_eq_true rfl) dX4_heir_32 ⟨Nat.le_of_ble_eq_true rfl, Nat.le_of_ble_eq_true rfl⟩ (fun r_32 xa1 G1 H locs hp hW => ?_)
    obtain ⟨hu, hr_32⟩ := hp
    cases hu
    refine lv_if_ne (tgt := 50) hx hb dX4_heir_35 (by decide) (fun c_35 => ?_) (fun c_35 => ?_)
    · -- ne taken
      have c_35 := hr_32.t c_35
      exact y_throw (cls := xIse) (text := "the heir was told") hx hb hst0 hown ce_ise (hts (.classLink RX4 42 "java/lang/IllegalStateException") (by decide +kernel)) (hts (.initialized "java/lang/IllegalStateException") (by decide +kernel)) (fun w h => hts w (List.mem_cons_of_mem _ (List.mem_append_left _ (List.mem_append_right _ h)))) (by decide +kernel) hW (hl.1.trans hml.symm) dX4_heir_50 dX4_heir_53 dX4_heir_54 dX4_heir_56 dX4_heir_59 ⟨hout, hlocks⟩ (Nat.le_of_ble_eq_true rfl) (Nat.le_of_ble_eq_true rfl) ⟨Nat.le_of_ble_eq_true rfl, Nat.le_of_ble_eq_true rfl⟩ (px3 ⟨(pP_of hi h5), (pP_of hh h5)⟩ (fun h_ => hne (by rw [nI_toInt (by omega), nI_toInt (by omega)] at h_; omega)) (fun h_ => h_ (by rw [xn_nI (by omega), xn_nI (by omega)]; exact c_35)) rfl) ⟨Nat.le_of_ble_eq_true rfl, Nat.le_of_ble_eq_true rfl⟩
    · -- ne not
      have c_35 := hr_32.f c_35
      refine lv_aload_n hx hb dX4_heir_38 rfl (lv_at hl 3 rfl) ?_
      refine x_get hx hb hts hin1 hown hW 10 i (xg_p G0 D xa σ τ (i := i) hi) rfl 4 (by decide) (hts (.fieldLink RX4 71 "Restitutory$Person" "heirCount" "I") (by decide +kernel)) rfl (v := .int (nI (σ 4 i))) (rfl) dX4_heir_39 ?_
      have b_39 := hB 4 i
      refine lv_aload_n hx hb dX4_heir_42 rfl (lv_at hl 3 rfl) ?_
      refine x_get hx hb hts hin1 hown hW 10 i (xg_p G0 D xa σ τ (i := i) hi) rfl 3 (by decide) (hts (.fieldLink RX4 74 "Restitutory$Person" "heirs" "[LRestitutory$Person;") (by decide +kernel)) rfl (v := .ref (xa 11 i)) (rfl) dX4_heir_43 ?_
      refine x_len hx hb hW 11 i 0 rfl (xg_h G0 D xa σ τ (i := i) (by omega)) (v := nI 11) rfl dX4_heir_46 ?_
      refine lv_icmp_lt (tgt := 60) hx hb dX4_heir_47 (by decide) (fun c_47 => ?_) (fun c_47 => ?_)
      · -- lt taken
        have c_47 := Int32.lt_iff_toInt_lt.mp c_47
        rw [nI_toInt (n := σ 4 i) (by omega)] at c_47
        rw [nI_toInt (n := 11) (by omega)] at c_47
        refine lv_aload_n hx hb dX4_heir_60 rfl (lv_at hl 3 rfl) ?_
        refine x_get hx hb hts hin1 hown hW 10 i (xg_p G0 D xa σ τ (i := i) hi) rfl 3 (by decide) (hts (.fieldLink RX4 74 "Restitutory$Person" "heirs" "[LRestitutory$Person;") (by decide +kernel)) rfl (v := .ref (xa 11 i)) (rfl) dX4_heir_61 ?_
        refine lv_aload_n hx hb dX4_heir_64 rfl (lv_at hl 3 rfl) ?_
        refine x_get hx hb hts hin1 hown hW 10 i (xg_p G0 D xa σ τ (i := i) hi) rfl 4 (by decide) (hts (.fieldLink RX4 71 "Restitutory$Person" "heirCount" "I") (by decide +kernel)) rfl (v := .int (nI (σ 4 i))) (rfl) dX4_heir_65 ?_
        have b_65 := hB 4 i
        refine lv_aload hx hb dX4_heir_68 (lv_at hl 4 rfl) ?_
        refine x_ast hx hb hW 11 i 0 (r := (_, _, _)) rfl (xg_h G0 D xa σ τ hi) 10 h (xg_p G0 D xa σ τ hh) (ci := 1) rfl (σ 4 i) rfl (by omega) (by omega) dX4_heir_70 fun H locs hW => ?_
        refine lv_aload_n hx hb dX4_heir_71 rfl (lv_at hl 3 rfl) ?_
        refine lv_dup hx hb dX4_heir_72 rfl ?_
        refine x_get hx hb hts hin1 hown hW 10 i ((xup_ne _ _ (by omega)).trans (xg_p G0 D xa σ τ (i := i) hi)) rfl 4 (by decide) (hts (.fieldLink RX4 71 "Restitutory$Person" "heirCount" "I") (by decide +kernel)) rfl (v := .int (nI (σ 4 i))) (rfl) dX4_heir_73 ?_
        have b_73 := hB 4 i
        refine lv_iconst (v := nI (1)) hx hb dX4_heir_76 (by decide +kernel) ?_
        refine lv_iadd hx hb dX4_heir_77 ?_
        rw [nI_add]
        refine x_put (ty := .int) (v := .int (nI ((σ 4 i) + 1))) hx hb hts hin1 tyX1 tyX1_ok nmX1 hown hW 10 i (fs := pfs xa σ τ i) ((xup_ne _ _ (by omega)).trans (xg_p G0 D xa σ τ (i := i) hi)) rfl 4 (by decide) (hts (.fieldLink RX4 71 "Restitutory$Person" "heirCount" "I") (by decide +kernel)) rfl rfl (by decide +kernel) rfl rfl (Nat.le_of_ble_eq_true rfl) dX4_heir_78 fun H locs hW => ?_
        have hW := hW.eqG (xf_heir G0 D xa (τ := τ) hm hi).symm
        refine lv_aload_n hx hb dX4_heir_81 rfl (lv_at hl 3 rfl) ?_
        refine x_get hx hb hts hin1 hown hW 10 i (xg_p G0 D xa (sup (sup σ 3 (12 * i + σ 4 i) h) 4 i (σ 4 i + 1)) τ (i := i) hi) rfl 4 (by decide) (hts (.fieldLink RX4 71 "Restitutory$Person" "heirCount" "I") (by decide +kernel)) rfl (v := .int (nI ((sup (sup σ 3 (12 * i + σ 4 i) h) 4 i (σ 4 i + 1)) 4 i))) (rfl) dX4_heir_82 ?_
        exact ye_i hx hb hr rfl hlocks hW ⟨gk.mk0 ⟨(pP_of hi h5), (pP_of hh h5)⟩ (fun h_ => hne (by rw [nI_toInt (by omega), nI_toInt (by omega)] at h_; omega)) (by rw [xn_nI (by omega), xn_nI (by omega)]; exact c_35), xa, τ, fun _ _ _ => rfl, by rw [show t_heir σ (nI i) (nI h) 0 = sup (sup σ 3 (12 * i + σ 4 i) h) 4 i (σ 4 i + 1) by unfold t_heir; rw [if_pos rfl, xn_nI (by omega), xn_nI (by omega)]], hL, hT, by rw [xn_nI (by omega), sup_self]; exact nI_toInt (by omega)⟩ (Nat.le_of_ble_eq_true rfl) (Nat.le_of_ble_eq_true rfl) dX4_heir_85
      · -- lt not
        have c_47 : ¬ ((nI (σ 4 i)).toInt < (nI (11)).toInt) := fun h => c_47 (Int32.lt_iff_toInt_lt.mpr h)
        rw [nI_toInt (n := σ 4 i) (by omega)] at c_47
        rw [nI_toInt (n := 11) (by omega)] at c_47
        exact absurd (told_all hg hi hh hne (by omega)) c_35
  · -- acmpne not
    have hne : i = h := (hW.inj (xg_p G0 D xa σ τ hi) (xg_p G0 D xa σ τ hh) (Option.some.inj c_16)).2
    exact y_throw (cls := xIae) (text := "nobody is an heir of oneself") hx hb hst0 hown ce_iae (hts (.classLink RX4 62 "java/lang/IllegalArgumentException") (by decide +kernel)) (hts (.initialized "java/lang/IllegalArgumentException") (by decide +kernel)) (fun w h => hts w (List.mem_cons_of_mem _ (List.mem_append_left _ (List.mem_append_left _ (List.mem_append_right _ h))))) (by decide +kernel) hW (hl.1.trans hml.symm) dX4_heir_19 dX4_heir_22 dX4_heir_23 dX4_heir_25 dX4_heir_28 ⟨hout, hlocks⟩ (Nat.le_of_ble_eq_true rfl) (Nat.le_of_ble_eq_true rfl) ⟨Nat.le_of_ble_eq_true rfl, Nat.le_of_ble_eq_true rfl⟩ (px2 ⟨(pP_of hi h5), (pP_of hh h5)⟩ (fun h_ => h_ (by rw [hne])) rfl) ⟨Nat.le_of_ble_eq_true rfl, Nat.le_of_ble_eq_true rfl⟩
