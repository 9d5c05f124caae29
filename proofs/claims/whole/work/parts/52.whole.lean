theorem xE_xa (D : xD) {xa xa1 : xA} (σ : Sg) (τ : Tg) (k i : Nat) (h : ∀ k, k < 20 → xa1 k = xa k) : xE D xa1 σ τ k i = xE D xa σ τ k i := by
  unfold xE xfs pfs tfs sfs
  simp only [h 1 (by omega), h 2 (by omega), h 3 (by omega), h 4 (by omega), h 10 (by omega), h 11 (by omega), h 12 (by omega), h 13 (by omega), h 14 (by omega), h 15 (by omega)]
theorem w0_eq {D : xD} {y2 y4 y5 : xA} {e0 e5 : va_E} (h2 : ∀ k, k < 20 → y5 k = y2 k) (h4 : ∀ j, y5 20 j = y4 20 j) : lG D y5 sg0 tg0 (fun _ => 0) 0 (fun _ => 0) = xup (mG (xup (xGs (xup (fun _ _ => none) 0 0 e0) D y2 sg0 tg0) 20 0 e5) D y4 sg0 (fun _ => 0) 0) 30 0 (.inl (D.2 6, 1, .inr (.inl (fun _ => 0)))) := by
  unfold lG
  rw [lG_m]
  funext k i
  by_cases h30 : k = 30 ∧ i = 0
  · obtain ⟨rfl, rfl⟩ := h30
    rw [xup_self]
    exact (if_neg (by omega)).trans ((if_neg (by omega)).trans (xup_self _ _ _ _))
  rw [xup_ne _ _ h30]
  unfold mG
  by_cases h20 : k = 20
  · subst h20
    rw [if_pos rfl, if_pos rfl]
    exact (mE_xa D sg0 (fun _ => 0) 0 i h4).symm
  rw [if_neg h20, if_neg h20, xup_ne _ _ (fun h => h20 h.1)]
  unfold xGs
  by_cases hk : k < 20
  · rw [if_pos hk, if_pos hk]
    exact xE_xa D sg0 tg0 k i h2
  · rw [if_neg hk, if_neg hk, xup_ne _ _ (by omega)]
    exact xup_ne _ _ h30
theorem g0_20 {e0 : va_E} {D : xD} {y2 : xA} : xGs (xup (fun _ _ => none) 0 0 e0) D y2 sg0 tg0 20 0 = none := (if_neg (by omega)).trans (xup_ne _ _ (by omega))
theorem g0_20j {e0 e5 : va_E} {D : xD} {y2 : xA} {k i : Nat} (h : k = 20 ∧ i ≠ 0) : xup (xGs (xup (fun _ _ => none) 0 0 e0) D y2 sg0 tg0) 20 0 e5 k i = none := by
  obtain ⟨rfl, hi⟩ := h
  rw [xup_ne _ _ (fun hz => hi hz.2)]
  exact (if_neg (by omega)).trans (xup_ne _ _ (by omega))
theorem g0_30 {e0 e5 : va_E} {D : xD} {y2 y4 : xA} : mG (xup (xGs (xup (fun _ _ => none) 0 0 e0) D y2 sg0 tg0) 20 0 e5) D y4 sg0 (fun _ => 0) 0 30 0 = none := (if_neg (by omega)).trans ((xup_ne _ _ (by omega)).trans ((if_neg (by omega)).trans (xup_ne _ _ (by omega))))
set_option maxHeartbeats 4000000 in
set_option maxRecDepth 100000 in
/-- from the entry, for every script, the law comes to its end with true -/
theorem whole_start {p : Program} {e : Env} {s : State} {m : MethodId} {below : List Frame} {meth : Method} {c : Code} (l : Launch) (hflags : l.flags = flags0) {b L : Nat} {xs : Nat → Int32} (hL : L ≤ 3072) (C0 : lw_At p s m meth c b L xs) : W p l e room_1 s m #[Value.ref b] below meth c s.heap [] 0 0 (lw_Z below #[Value.ref b] s) (entryFrame m ([Value.ref b] : List Value).toArray 7) := by
  obtain ⟨hx, hb, hr, hml, hown, hts0, hX, hbl, hlocks, hgv⟩ := C0
  have hst0 : l.stackTraces = false := by unfold Launch.stackTraces; rw [hflags]; decide +kernel
  have hts : ∀ w ∈ wsL_law, w.before #[Value.ref b] s = true := fun w h => hts0 w (wsL_law_in w h)
  obtain ⟨D, hK⟩ := la_K hts0
  obtain ⟨sa, hsa⟩ := la_sa hts0 (hK.1 4 _ rfl).2.1
  have hgs := flat_of_before _ hgv
  obtain ⟨A, hA⟩ : ∃ A : Nat → Prop, A = fun q => s.heap.size ≤ q := ⟨_, rfl⟩
  have hnA : ∀ a : Nat, a < s.heap.size → ¬ A a := fun a h1 h2 => by rw [hA] at h2; exact absurd h2 (by omega)
  have hNc : ∀ E ∈ xExc, ∀ F ∈ xExc, E ≠ F → va_Nc E F s := by
    intro E hE F hF hn
    simp only [xExc, List.mem_cons, List.not_mem_nil, or_false] at hE hF
    rcases hE with rfl | rfl | rfl <;> rcases hF with rfl | rfl | rfl <;> first | exact absurd rfl hn | exact va_Nc.of (hgs _ (by decide +kernel))
  have hEv : xEv sa A s s.heap := ⟨vx_Zqof (hts0 (.laysStatic Bundle.tN "UNASSIGNED_STACK" Bundle.steD) (by decide +kernel)) (hts0 (.initialized Bundle.tN) (by decide +kernel)) (hgs (.isRef (.static Bundle.tN "UNASSIGNED_STACK" Bundle.steD)) (by decide +kernel)) hnA,
    vx_Zqof (hts0 (.laysStatic Bundle.tN "SUPPRESSED_SENTINEL" Bundle.listD) (by decide +kernel)) (hts0 (.initialized Bundle.tN) (by decide +kernel)) (hgs (.isRef (.static Bundle.tN "SUPPRESSED_SENTINEL" Bundle.listD)) (by decide +kernel)) hnA,
    hsa, fun E hE => va_Nw.of rfl (hts0 _ (la_cast E hE)), fun y hy => va_Nw.of rfl (hts0 _ (la_dec y hy)), hNc, fun C hC => va_AO.of (hts0 _ (la_arr C hC))⟩
  have hW : xW D sa A s (fun _ _ => 0) (fun _ _ => none) s.heap [] := ⟨⟨fun k i e h => (by cases h), fun k i k' i' h => absurd rfl h⟩, fun k i h => absurd rfl h, fun q hq => (by rw [hA]; exact hq), va_S.rf, hK, hEv⟩
  have hAA : ∀ q, A q → s.heap.size ≤ q := fun q h => by rw [hA] at h; exact h
  have hl := lv_entry ([.ref b]) (n := 7) (Nat.le_of_ble_eq_true rfl)
  rw [lg_entry_eq]
  generalize (lg_sl ([.ref b]) ++ List.replicate (7 - (lg_sl ([.ref b])).length) Slot.unset).toArray = ls at hl ⊢
  have hl : lv_has ls 7 [(0, .ref b)] := hl
  refine x_new hx hb hts inlX4 tyX4 tyX4_ok hown (hts (.classLink RL 8 RX4) (by decide +kernel)) (hts (.instantiable RX4 8) (by decide +kernel)) (hts (.initialized RX4) (by decide +kernel)) hW 0 0 (ci := 4) rfl rfl (fs := [.null, .int (nI 0), .null, .int (nI 0), .null, .int (nI 0), .null, .int (nI 0)]) (fun j hj => match j, hj with | 0, _ => rfl | 1, _ => rfl | 2, _ => rfl | 3, _ => rfl | 4, _ => rfl | 5, _ => rfl | 6, _ => rfl | 7, _ => rfl | j + 8, hj => absurd hj (by omega)) (Nat.le_of_ble_eq_true rfl) (Nat.le_of_ble_eq_true rfl) dL_law_0 fun y1 H hy1 hW => ?_
  refine lv_dup hx hb dL_law_3 rfl ?_
  refine xi_v (k := 0) (i := 0) (As := []) (rest := [.ref (y1 0 0)]) ⟨hx, hb, hml, hown, hts⟩ (c_X4_init l D sa y1 _ (xup_self _ _ _ _) (fun k i h => xup_ne _ _ h.2)) (cwI 0 hts gL_law_X4_init rfl rfl rfl (hts (.initialized RX4) (by decide +kernel)) (hts (.methodLink RL 86 yX4_init) (by decide +kernel)) (hts (.instanceMethod yX4_init) (by decide +kernel)) rfl (by decide +kernel) ⟨Nat.le_of_ble_eq_true rfl, Nat.le_of_ble_eq_true rfl⟩) hW rfl rfl hl.1 (Nat.le_of_ble_eq_true rfl) dL_law_4 ⟨Nat.le_of_ble_eq_true rfl, Nat.le_of_ble_eq_true rfl⟩ (fun xa1 G1 H locs hp hW => ?_)
  obtain ⟨y2, hy2, hu⟩ := hp
  have hu2 : G1 = _ := congrArg Prod.snd hu
  subst hu2
  have hu1 : y2 = xa1 := (congrArg Prod.fst hu).symm
  subst hu1
  obtain ⟨e0, hW⟩ : ∃ e0 : va_E, xW D sa A s y2 (xGs (xup (fun _ _ => none) 0 0 e0) D y2 sg0 tg0) H locs := ⟨_, hW⟩
  refine W_stk (st' := [.ref (y2 0 0)]) (by rw [hy2 0 0 (by omega)]) ?_
  refine lv_astore_n (lv' := [(1, .ref (y2 0 0)), (0, .ref b)]) hx hb dL_law_7 rfl hl (by decide) rfl (fun ls hl => ?_)
  refine x_new hx hb hts inlX5 tyX5 tyX5_ok hown (hts (.classLink RL 87 RX5) (by decide +kernel)) (hts (.instantiable RX5 21) (by decide +kernel)) (hts (.initialized RX5) (by decide +kernel)) hW 20 0 (ci := 5) g0_20 rfl (fs := [.int (nI 0), .null, .null, .null, .null, .int (nI 0), .null, .int (nI 0), .null, .null, .null, .null, .int (nI 0), .null, .null, .null, .null, .null, .null, .null, .int (nI 0)]) (fun j hj => match j, hj with | 0, _ => rfl | 1, _ => rfl | 2, _ => rfl | 3, _ => rfl | 4, _ => rfl | 5, _ => rfl | 6, _ => rfl | 7, _ => rfl | 8, _ => rfl | 9, _ => rfl | 10, _ => rfl | 11, _ => rfl | 12, _ => rfl | 13, _ => rfl | 14, _ => rfl | 15, _ => rfl | 16, _ => rfl | 17, _ => rfl | 18, _ => rfl | 19, _ => rfl | 20, _ => rfl | j + 21, hj => absurd hj (by omega)) (Nat.le_of_ble_eq_true rfl) (Nat.le_of_ble_eq_true rfl) dL_law_8 fun y3 H hy3 hW => ?_
  have hl : lv_has ls 7 [(1, .ref (y3 0 0)), (0, .ref b)] := by rw [hy3 0 0 (by omega)]; exact hl
  refine lv_dup hx hb dL_law_11 rfl ?_
  refine xi_v (k := 20) (i := 0) (As := []) (rest := [.ref (y3 20 0)]) ⟨hx, hb, hml, hown, hts⟩ (c_X5_init l D sa y3 _ (xup_self _ _ _ _) (fun k i h => g0_20j h)) (cwI 0 hts gL_law_X5_init rfl rfl rfl (hts (.initialized RX5) (by decide +kernel)) (hts (.methodLink RL 89 yX5_init) (by decide +kernel)) (hts (.instanceMethod yX5_init) (by decide +kernel)) rfl (by decide +kernel) ⟨Nat.le_of_ble_eq_true rfl, Nat.le_of_ble_eq_true rfl⟩) hW rfl rfl hl.1 (Nat.le_of_ble_eq_true rfl) dL_law_12 ⟨Nat.le_of_ble_eq_true rfl, Nat.le_of_ble_eq_true rfl⟩ (fun xa1 G1 H locs hp hW => ?_)
  obtain ⟨y4, hy4, hu⟩ := hp
  have hu2 : G1 = _ := congrArg Prod.snd hu
  subst hu2
  have hu1 : y4 = xa1 := (congrArg Prod.fst hu).symm
  subst hu1
  obtain ⟨e5, hW⟩ : ∃ e5 : va_E, xW D sa A s y4 (mG (xup (xGs (xup (fun _ _ => none) 0 0 e0) D y2 sg0 tg0) 20 0 e5) D y4 sg0 (fun _ => 0) 0) H locs := ⟨_, hW⟩
  refine W_stk (st' := [.ref (y4 20 0)]) (by rw [hy4 20 0 (by omega)]) ?_
  have hl : lv_has ls 7 [(1, .ref (y4 0 0)), (0, .ref b)] := by rw [hy4 0 0 (by omega)]; exact hl
  refine lv_astore_n (lv' := [(2, .ref (y4 20 0)), (1, .ref (y4 0 0)), (0, .ref b)]) hx hb dL_law_15 rfl hl (by decide) rfl (fun ls hl => ?_)
  refine lv_iconst (v := nI 1) hx hb dL_law_16 (by decide +kernel) ?_
  refine x_newa (atype := .long) (N' := 1) (a0 := (1, .inr (.inl (fun _ => 0)))) hx hb (hts (.arrayClass .long) (by decide +kernel)) 6 (ty := .long) rfl rfl id hW 30 0 g0_30 (fun cA => by rw [vp_cell_l]; rfl) (by decide +kernel) (by decide +kernel) (by decide +kernel) (Nat.le_of_ble_eq_true rfl) (Nat.le_of_ble_eq_true rfl) dL_law_17 fun y5 H hy5 hW => ?_
  have hl : lv_has ls 7 [(2, .ref (y5 20 0)), (1, .ref (y5 0 0)), (0, .ref b)] := by rw [hy5 0 0 (by omega), hy5 20 0 (by omega)]; exact hl
  have hW := hW.eqG (w0_eq (D := D) (y2 := y2) (y4 := y4) (y5 := y5) (fun k hk => funext fun i => (hy5 k i (by omega)).trans ((hy4 k i (by omega)).trans (hy3 k i (by omega)))) (fun j => hy5 20 j (by omega)))
  refine lv_astore_n (lv' := [(3, .ref (y5 30 0)), (2, .ref (y5 20 0)), (1, .ref (y5 0 0)), (0, .ref b)]) hx hb dL_law_19 rfl hl (by decide) rfl (fun ls hl => ?_)
  refine lv_iconst (v := nI 0) hx hb dL_law_20 (by decide +kernel) ?_
  refine lv_istore (lv' := [(4, .int (nI 0)), (3, .ref (y5 30 0)), (2, .ref (y5 20 0)), (1, .ref (y5 0 0)), (0, .ref b)]) hx hb dL_law_21 hl (by decide) rfl (fun ls hl => ?_)
  have hl : lv_has ls 7 [(0, .ref b), (1, .ref (y5 0 0)), (2, .ref (y5 20 0)), (3, .ref (y5 30 0)), (4, .int (nI (6 * 0)))] := lv_sub hl [4, 3, 2, 1, 0] rfl
  exact law_loop l hst0 hx hb hr hlocks hml hown hts hX hbl hAA hL (L - 6 * 0 + 1) 0 y5 sg0 tg0 (fun _ => 0) 0 (fun _ => 0) H locs ls (by omega) (by omega) hW sg0_Gd sg0_LL sg0_TE hl
