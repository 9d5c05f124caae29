/-! THE LAW'S OWN CALLS OF THE CLASS: the exception as a number -/
theorem gk.no2 {P R : Prop} (h : gk P True R 2) : False := by unfold gk at h; simp at h
theorem gk.no3 {P Q : Prop} (h : gk P Q True 3) : False := by unfold gk at h; simp at h
def tvl (v : Int64) (P : Prop) : Prop := (P ∧ v = 1) ∨ (¬ P ∧ v = 0)
theorem xup_same {G : xG} {k i : Nat} {e : va_E} (h : G k i = some e) : xup G k i e = G := by
  funext x y
  unfold xup
  split
  case isTrue hh => rw [hh.1, hh.2, h]
  case isFalse => rfl
theorem xup_G (G : xG) (D : xD) (xa : xA) (σ : Sg) (τ : Tg) {k i : Nat} (hk : 20 ≤ k) (e : va_E) : xup (xGs G D xa σ τ) k i e = xGs (xup G k i e) D xa σ τ := by
  funext x y
  unfold xGs xup
  dsimp only
  by_cases h : x < 20
  · rw [if_pos h, if_pos h, if_neg (by omega)]
  · rw [if_neg h, if_neg h]
section XWX
variable {D : xD} {sa : Nat → Nat} {A : Nat → Prop} {s : State} {xa : xA} {G : xG} {H : Heap} {locs : List Loc}
theorem xW.cast {args : Array Value} (h : xW D sa A s xa G H locs) {E : String} (hE : E ∈ xExc) : (Cond.castable E E).before args s = true := va_Nw.use rfl (h.2.2.2.2.2.2.2.2.1 E hE)
theorem xW.Nc (h : xW D sa A s xa G H locs) {E F : String} (hE : E ∈ xExc) (hF : F ∈ xExc) (hn : E ≠ F) : va_Nc E F s := h.2.2.2.2.2.2.2.2.2.2.1 E hE F hF hn
end XWX
section XH
variable {p : Program} {l : Launch} {e : Env} {R : Room} {s : State} {m : MethodId} {args : Array Value} {below : List Frame} {meth : Method} {c : Code} {H : Heap} {locs : List Loc} {cells slots : Nat} {Q : State → Prop}
variable {cc : ByteArray} {pc : Nat} {ls : Array Slot} {rest st0 : List Value} {D : xD} {sa : Nat → Nat} {A : Nat → Prop} {xa : xA} {G : xG}
variable {y : MethodName} {bytes : ByteArray} {maxL nL mc ms n index : Nat} {ret : Option FieldType} {ws Ts : List Cond} {rm : Room} {own C : String} {As : List Value}
theorem yh_i {post : Int32 → xA × xG → Prop} {pex : String → Prop} {k i ci : Nat} {fs : List Value} {q : vw_C} (S : CallFix p m c cc nL s args Ts own) (hM : xXi l y ws rm D sa xa G (.ref (xa k i) :: As) post pex mc ms) (cw : CallW R s args own C index y bytes maxL ret ws rm mc ms n) (hW : xW D sa A s xa G H locs) (hG : G k i = some (.inr (ci, fs))) (hc : vwCl[ci]? = some q) (hC : q.1 = C) (hst : st0 = As.reverse ++ .ref (xa k i) :: rest) (hn : As.length = n) (hls : ls.size = nL) (hroom : (rest.map fun v => v.category).sum ≤ 8) (hdg : decode cc pc = .ok (.invokevirtual index, 3)) (hf : cells + mc ≤ R.cells ∧ slots + ms ≤ R.slots)
    (kx : ∀ (E : String) (ce : Cell) (q9 : Addr) (H1 : Heap) (locs1 : List Loc), pex E → xW D sa A s xa G H1 locs1 → H1[q9]? = some ce → ce.vm = .none → s.vm.findClass E = some ce.cls → vx_W p l e R s m args below meth c H1 locs1 (cells + mc) (slots + ms) Q (F0 m pc ls rest) q9)
    (kk : ∀ (r : Int32) (xa1 : xA) (G1 : xG) (H1 : Heap) (locs1 : List Loc), post r (xa1, G1) → xW D sa A s xa1 G1 H1 locs1 → W p l e R s m args below meth c H1 locs1 (cells + mc) (slots + ms) Q (F0 m (pc + 3) ls (.int r :: rest))) : W p l e R s m args below meth c H locs cells slots Q (F0 m pc ls st0) := by
  subst hst
  exact vx_calli (vx_runV S (hM H.size) cw (hW.preV hG hc hC) rfl hn hls rfl (lv_room hroom) hdg hf) hW.S (fun q _ h => hW.sub q h) hW.sub (fun q _ h => hW.sub q h) (fun E ce q9 u t H1 locs1 ht hvm hp hB hz hk hS hce hv hcl => by
    obtain ⟨h1, rfl, hB⟩ := hB
    exact kx E ce q9 H1 locs1 h1 (hW.post ht hB hS) hce hv hcl) (fun r u t H1 locs1 ht hvm hp hB hz hk hS => kk r u.1 u.2 H1 locs1 hp (hW.post ht hB hS))
theorem yh_v {post : xA × xG → Prop} {pex : String → Prop} {k i ci : Nat} {fs : List Value} {q : vw_C} (S : CallFix p m c cc nL s args Ts own) (hM : xXv l y ws rm D sa xa G (.ref (xa k i) :: As) post pex mc ms) (cw : CallW R s args own C index y bytes maxL ret ws rm mc ms n) (hW : xW D sa A s xa G H locs) (hG : G k i = some (.inr (ci, fs))) (hc : vwCl[ci]? = some q) (hC : q.1 = C) (hst : st0 = As.reverse ++ .ref (xa k i) :: rest) (hn : As.length = n) (hls : ls.size = nL) (hroom : (rest.map fun v => v.category).sum ≤ 8) (hdg : decode cc pc = .ok (.invokevirtual index, 3)) (hf : cells + mc ≤ R.cells ∧ slots + ms ≤ R.slots)
    (kx : ∀ (E : String) (ce : Cell) (q9 : Addr) (H1 : Heap) (locs1 : List Loc), pex E → xW D sa A s xa G H1 locs1 → H1[q9]? = some ce → ce.vm = .none → s.vm.findClass E = some ce.cls → vx_W p l e R s m args below meth c H1 locs1 (cells + mc) (slots + ms) Q (F0 m pc ls rest) q9)
    (kk : ∀ (xa1 : xA) (G1 : xG) (H1 : Heap) (locs1 : List Loc), post (xa1, G1) → xW D sa A s xa1 G1 H1 locs1 → W p l e R s m args below meth c H1 locs1 (cells + mc) (slots + ms) Q (F0 m (pc + 3) ls rest)) : W p l e R s m args below meth c H locs cells slots Q (F0 m pc ls st0) := by
  subst hst
  exact vx_callv (vx_runV S (hM H.size) cw (hW.preV hG hc hC) rfl hn hls rfl (lv_room hroom) hdg hf) hW.S (fun q _ h => hW.sub q h) hW.sub (fun q _ h => hW.sub q h) (fun E ce q9 u t H1 locs1 ht hvm hp hB hz hk hS hce hv hcl => by
    obtain ⟨h1, rfl, hB⟩ := hB
    exact kx E ce q9 H1 locs1 h1 (hW.post ht hB hS) hce hv hcl) (fun u t H1 locs1 ht hvm hp hB hz hk hS => kk u.1 u.2 H1 locs1 hp (hW.post ht hB hS))
end XH

set_option maxHeartbeats 4000000 in
set_option maxRecDepth 100000 in
theorem c_L_person (l : Launch) (hst0 : l.stackTraces = false) (D : xD) (sa : Nat → Nat) (xa : xA) (G1 : xG) (σ : Sg) (τ : Tg) (hg : Gd σ) (hL : LL σ τ) (hT : TE σ τ) (fo : Nat → Int64) (hO : G1 30 0 = some (.inl (D.2 6, 1, .inr (.inl fo)))) (x : Int32) : xCi l yL_person wsL_person ({ frames := 16, cells := 3, slots := 23, locals := 500 } : Room) D sa xa (xGs G1 D xa σ τ) [.ref (xa 0 0), .int (x), .ref (xa 30 0)] (fun r u => ∃ (k_ : Nat) (f1 : Nat → Int64), gk (rg x 0 3) (σ 5 0 < 12) (True) k_ ∧ r = nI k_ ∧ xPo D xa (xup G1 30 0 (.inl (D.2 6, 1, .inr (.inl f1)))) (t_person σ x k_) (k_ = 0 → ∃ a_ : Int32, f1 0 = a_.toInt64 ∧ (a_.toInt = (σ 5 0 : Int))) u) 3 23 := by
  intro sz
  refine va_MetW (cc := cL_person) (maxL := 4) (ret := (some .int)) (hh := [(0, 9, 12, 13), (0, 9, 15, 15)]) (by decide +kernel) rfl ?_
  intro p e s m args below meth c s₁ B hml hv
  obtain ⟨rfl, hsz, hv2⟩ := hv
  subst hsz
  have hx := B.exec
  have hb := B.bytes
  have hr := B.returns
  have hts := atoms_spec (ws := wsL_person) B.pre
  have hown : s.vm.findClass RL = some m.cls := findClass_of_methodNamed B.named
  have hlocks := B.notSynchronized
  have hW := xW.start (s := s) ⟨rfl, hv2⟩
  clear hv2
  generalize xAw xa (xGs G1 D xa σ τ) s.heap.size = A at hW ⊢
  have hl := lv_entry ([.ref (xa 0 0), .int (x), .ref (xa 30 0)]) (n := 4) (Nat.le_of_ble_eq_true rfl)
  rw [lg_entry_eq]
  generalize (lg_sl ([.ref (xa 0 0), .int (x), .ref (xa 30 0)]) ++ List.replicate (4 - (lg_sl ([.ref (xa 0 0), .int (x), .ref (xa 30 0)])).length) Slot.unset).toArray = ls at hl ⊢
  have hl : lv_has ls 4 [(0, .ref (xa 0 0)), (1, .int (x)), (2, .ref (xa 30 0))] := hl
  have htab : c.exceptionTable.toList = [⟨0, 9, 12, 13⟩, ⟨0, 9, 15, 15⟩] := (vx_table (x := yL_person) B (hts _ List.mem_cons_self)).trans rfl
  refine lv_aload_n hx hb dL_person_0 rfl (lv_at hl 2 rfl) ?_
  refine lv_iconst (v := nI (0)) hx hb dL_person_1 (by decide +kernel) ?_
  refine lv_aload_n hx hb dL_person_2 rfl (lv_at hl 0 rfl) ?_
  refine lv_iload_n hx hb dL_person_3 rfl (lv_at hl 1 rfl) ?_
  refine yh_i (k := 0) (i := 0) (As := [.int (x)]) (rest := [.int (nI (0)), .ref (xa 30 0)]) ⟨hx, hb, hml, hown, hts⟩ (c_X4_person l hst0 D sa xa G1 σ τ hg hL hT x) (cwV 1 hts gL_person_X4_person rfl rfl rfl (by decide +kernel) ⟨Nat.le_of_ble_eq_true rfl, Nat.le_of_ble_eq_true rfl⟩) hW (xg_x G1 D xa σ τ) rfl rfl rfl rfl hl.1 (Nat.le_of_ble_eq_true rfl) dL_person_4 ⟨Nat.le_of_ble_eq_true rfl, Nat.le_of_ble_eq_true rfl⟩ ?_ ?_
  · rintro E ce q9 H locs ⟨k, hgk, hE⟩ hW hce hcv hcl
    rcases hE with ⟨rfl, rfl⟩ | ⟨rfl, rfl⟩ | ⟨rfl, rfl⟩
    ·
      refine vx_catch (name := "java/lang/IndexOutOfBoundsException") hown [] ⟨0, 9, 12, 13⟩ [⟨0, 9, 15, 15⟩] htab (fun z hz => absurd hz List.not_mem_nil) (by decide +kernel) (by decide) (hts (.classLink RL 13 "java/lang/IndexOutOfBoundsException") (by decide +kernel)) (hW.cast (by decide)) hce hcv hcl ?_
      show W _ _ _ _ _ _ _ _ _ _ _ _ _ _ _ (F0 _ 12 ls [.ref q9])
      refine lv_astore_n (lv' := [(3, .ref (q9)), (0, .ref (xa 0 0)), (1, .int (x)), (2, .ref (xa 30 0))]) hx hb dL_person_12 rfl hl (by decide) rfl (fun ls hl => ?_)
      have hl : lv_has ls 4 [(0, .ref (xa 0 0)), (1, .int (x)), (2, .ref (xa 30 0)), (3, .ref (q9))] := lv_sub hl [1, 2, 3, 0] rfl
      refine lv_iconst (v := nI (1)) hx hb dL_person_13 (by decide +kernel) ?_
      exact xe_i hx hb hr rfl hlocks hW ⟨1, fo, hgk, rfl, xa, τ, fun _ _ _ => rfl, by rw [show t_person σ x 1 = σ from if_neg (by decide), xup_same hO], by rw [show t_person σ x 1 = σ from if_neg (by decide)]; exact hL, by rw [show t_person σ x 1 = σ from if_neg (by decide)]; exact hT, fun h => absurd h (by decide)⟩ (Nat.le_of_ble_eq_true rfl) (Nat.le_of_ble_eq_true rfl) dL_person_14
    ·
      refine vx_catch (name := "java/lang/IllegalStateException") hown [⟨0, 9, 12, 13⟩] ⟨0, 9, 15, 15⟩ [] htab (by
          intro z hz
          simp only [List.mem_cons, List.not_mem_nil, or_false] at hz
          rcases hz with rfl
          · exact Or.inr ⟨by decide, "java/lang/IndexOutOfBoundsException", hts (.classLink RL 13 "java/lang/IndexOutOfBoundsException") (by decide +kernel), hW.Nc (by decide) (by decide) (by decide)⟩) (by decide +kernel) (by decide) (hts (.classLink RL 15 "java/lang/IllegalStateException") (by decide +kernel)) (hW.cast (by decide)) hce hcv hcl ?_
      show W _ _ _ _ _ _ _ _ _ _ _ _ _ _ _ (F0 _ 15 ls [.ref q9])
      refine lv_astore_n (lv' := [(3, .ref (q9)), (0, .ref (xa 0 0)), (1, .int (x)), (2, .ref (xa 30 0))]) hx hb dL_person_15 rfl hl (by decide) rfl (fun ls hl => ?_)
      have hl : lv_has ls 4 [(0, .ref (xa 0 0)), (1, .int (x)), (2, .ref (xa 30 0)), (3, .ref (q9))] := lv_sub hl [1, 2, 3, 0] rfl
      refine lv_iconst (v := nI (2)) hx hb dL_person_16 (by decide +kernel) ?_
      exact xe_i hx hb hr rfl hlocks hW ⟨2, fo, hgk, rfl, xa, τ, fun _ _ _ => rfl, by rw [show t_person σ x 2 = σ from if_neg (by decide), xup_same hO], by rw [show t_person σ x 2 = σ from if_neg (by decide)]; exact hL, by rw [show t_person σ x 2 = σ from if_neg (by decide)]; exact hT, fun h => absurd h (by decide)⟩ (Nat.le_of_ble_eq_true rfl) (Nat.le_of_ble_eq_true rfl) dL_person_17
    ·
      exact (gk.no3 hgk).elim
  · intro r xa1 G2 H locs hp hW
    obtain ⟨hgk, xa2, τ1, hag, hu, hL1, hT1, hans⟩ := hp
    have hu2 : G2 = _ := congrArg Prod.snd hu
    subst hu2
    have hu1 : xa2 = xa1 := (congrArg Prod.fst hu).symm
    subst hu1
    refine W_stk (st' := [.int r, .int (nI 0), .ref (xa2 30 0)]) (by rw [hag 30 0 (by omega)]) ?_
    have hW : xW D sa A s xa2 (xGs G1 D xa2 (t_person σ x 0) τ1) H locs := hW
    refine lv_i2l (v := Int32.toInt64 (r)) hx hb dL_person_7 rfl ?_
    refine x_lst hx hb hW 30 0 (n := 1) (f := fo) ((if_neg (by omega)).trans hO) 0 rfl (by omega) (by omega) dL_person_8 fun H locs hW => ?_
    have hW := hW.eqG (xup_G G1 D xa2 (t_person σ x 0) τ1 (k := 30) (i := 0) (by omega) (.inl (D.2 6, 1, .inr (.inl (vp_updL fo 0 (Int32.toInt64 (r))))))).symm
    refine lv_goto (tgt := 18) hx hb dL_person_9 (by decide) ?_
    refine lv_iconst (v := nI (0)) hx hb dL_person_18 (by decide +kernel) ?_
    exact xe_i hx hb hr rfl hlocks hW ⟨0, vp_updL fo 0 (Int32.toInt64 (r)), hgk, rfl, xa2, τ1, hag, rfl, hL1, hT1, fun _ => ⟨r, if_pos rfl, hans⟩⟩ (Nat.le_of_ble_eq_true rfl) (Nat.le_of_ble_eq_true rfl) dL_person_19

set_option maxHeartbeats 4000000 in
set_option maxRecDepth 100000 in
theorem c_L_die (l : Launch) (hst0 : l.stackTraces = false) (D : xD) (sa : Nat → Nat) (xa : xA) (G1 : xG) (σ : Sg) (τ : Tg) (hg : Gd σ) (hL : LL σ τ) (hT : TE σ τ) (x : Int32) : xCi l yL_die wsL_die ({ frames := 18, cells := 2, slots := 12, locals := 600 } : Room) D sa xa (xGs G1 D xa σ τ) [.ref (xa 0 0), .int (x)] (fun r u => ∃ k_ : Nat, gk (pP σ x) (σ 2 (xn x) = 0) (True) k_ ∧ r = nI k_ ∧ xPo D xa G1 (t_die σ x k_) True u) 2 12 := by
  intro sz
  refine va_MetW (cc := cL_die) (maxL := 3) (ret := (some .int)) (hh := [(0, 5, 8, 13), (0, 5, 11, 15)]) (by decide +kernel) rfl ?_
  intro p e s m args below meth c s₁ B hml hv
  obtain ⟨rfl, hsz, hv2⟩ := hv
  subst hsz
  have hx := B.exec
  have hb := B.bytes
  have hr := B.returns
  have hts := atoms_spec (ws := wsL_die) B.pre
  have hown : s.vm.findClass RL = some m.cls := findClass_of_methodNamed B.named
  have hlocks := B.notSynchronized
  have hW := xW.start (s := s) ⟨rfl, hv2⟩
  clear hv2
  generalize xAw xa (xGs G1 D xa σ τ) s.heap.size = A at hW ⊢
  have hl := lv_entry ([.ref (xa 0 0), .int (x)]) (n := 3) (Nat.le_of_ble_eq_true rfl)
  rw [lg_entry_eq]
  generalize (lg_sl ([.ref (xa 0 0), .int (x)]) ++ List.replicate (3 - (lg_sl ([.ref (xa 0 0), .int (x)])).length) Slot.unset).toArray = ls at hl ⊢
  have hl : lv_has ls 3 [(0, .ref (xa 0 0)), (1, .int (x))] := hl
  have htab : c.exceptionTable.toList = [⟨0, 5, 8, 13⟩, ⟨0, 5, 11, 15⟩] := (vx_table (x := yL_die) B (hts _ List.mem_cons_self)).trans rfl
  refine lv_aload_n hx hb dL_die_0 rfl (lv_at hl 0 rfl) ?_
  refine lv_iload_n hx hb dL_die_1 rfl (lv_at hl 1 rfl) ?_
  refine yh_v (k := 0) (i := 0) (As := [.int (x)]) (rest := []) ⟨hx, hb, hml, hown, hts⟩ (c_X4_die l hst0 D sa xa G1 σ τ hg hL hT x) (cwV 1 hts gL_die_X4_die rfl rfl rfl (by decide +kernel) ⟨Nat.le_of_ble_eq_true rfl, Nat.le_of_ble_eq_true rfl⟩) hW (xg_x G1 D xa σ τ) rfl rfl rfl rfl hl.1 (Nat.le_of_ble_eq_true rfl) dL_die_2 ⟨Nat.le_of_ble_eq_true rfl, Nat.le_of_ble_eq_true rfl⟩ ?_ ?_
  · rintro E ce q9 H locs ⟨k, hgk, hE⟩ hW hce hcv hcl
    rcases hE with ⟨rfl, rfl⟩ | ⟨rfl, rfl⟩ | ⟨rfl, rfl⟩
    ·
      refine vx_catch (name := "java/lang/IndexOutOfBoundsException") hown [] ⟨0, 5, 8, 13⟩ [⟨0, 5, 11, 15⟩] htab (fun z hz => absurd hz List.not_mem_nil) (by decide +kernel) (by decide) (hts (.classLink RL 13 "java/lang/IndexOutOfBoundsException") (by decide +kernel)) (hW.cast (by decide)) hce hcv hcl ?_
      show W _ _ _ _ _ _ _ _ _ _ _ _ _ _ _ (F0 _ 8 ls [.ref q9])
      refine lv_astore_n (lv' := [(2, .ref (q9)), (0, .ref (xa 0 0)), (1, .int (x))]) hx hb dL_die_8 rfl hl (by decide) rfl (fun ls hl => ?_)
      have hl : lv_has ls 3 [(0, .ref (xa 0 0)), (1, .int (x)), (2, .ref (q9))] := lv_sub hl [1, 2, 0] rfl
      refine lv_iconst (v := nI (1)) hx hb dL_die_9 (by decide +kernel) ?_
      exact xe_i hx hb hr rfl hlocks hW ⟨1, hgk, rfl, xa, τ, fun _ _ _ => rfl, by rw [show t_die σ x 1 = σ from if_neg (by decide)], by rw [show t_die σ x 1 = σ from if_neg (by decide)]; exact hL, by rw [show t_die σ x 1 = σ from if_neg (by decide)]; exact hT, trivial⟩ (Nat.le_of_ble_eq_true rfl) (Nat.le_of_ble_eq_true rfl) dL_die_10
    ·
      refine vx_catch (name := "java/lang/IllegalStateException") hown [⟨0, 5, 8, 13⟩] ⟨0, 5, 11, 15⟩ [] htab (by
          intro z hz
          simp only [List.mem_cons, List.not_mem_nil, or_false] at hz
          rcases hz with rfl
          · exact Or.inr ⟨by decide, "java/lang/IndexOutOfBoundsException", hts (.classLink RL 13 "java/lang/IndexOutOfBoundsException") (by decide +kernel), hW.Nc (by decide) (by decide) (by decide)⟩) (by decide +kernel) (by decide) (hts (.classLink RL 15 "java/lang/IllegalStateException") (by decide +kernel)) (hW.cast (by decide)) hce hcv hcl ?_
      show W _ _ _ _ _ _ _ _ _ _ _ _ _ _ _ (F0 _ 11 ls [.ref q9])
      refine lv_astore_n (lv' := [(2, .ref (q9)), (0, .ref (xa 0 0)), (1, .int (x))]) hx hb dL_die_11 rfl hl (by decide) rfl (fun ls hl => ?_)
      have hl : lv_has ls 3 [(0, .ref (xa 0 0)), (1, .int (x)), (2, .ref (q9))] := lv_sub hl [1, 2, 0] rfl
      refine lv_iconst (v := nI (2)) hx hb dL_die_12 (by decide +kernel) ?_
      exact xe_i hx hb hr rfl hlocks hW ⟨2, hgk, rfl, xa, τ, fun _ _ _ => rfl, by rw [show t_die σ x 2 = σ from if_neg (by decide)], by rw [show t_die σ x 2 = σ from if_neg (by decide)]; exact hL, by rw [show t_die σ x 2 = σ from if_neg (by decide)]; exact hT, trivial⟩ (Nat.le_of_ble_eq_true rfl) (Nat.le_of_ble_eq_true rfl) dL_die_13
    ·
      exact (gk.no3 hgk).elim
  · intro xa1 G2 H locs hp hW
    obtain ⟨hgk, xa2, τ1, hag, hu, hL1, hT1, hans⟩ := hp
    have hu2 : G2 = _ := congrArg Prod.snd hu
    subst hu2
    have hu1 : xa2 = xa1 := (congrArg Prod.fst hu).symm
    subst hu1
    have hW : xW D sa A s xa2 (xGs G1 D xa2 (t_die σ x 0) τ1) H locs := hW
    refine lv_goto (tgt := 14) hx hb dL_die_5 (by decide) ?_
    refine lv_iconst (v := nI (0)) hx hb dL_die_14 (by decide +kernel) ?_
    exact xe_i hx hb hr rfl hlocks hW ⟨0, hgk, rfl, xa2, τ1, hag, rfl, hL1, hT1, trivial⟩ (Nat.le_of_ble_eq_true rfl) (Nat.le_of_ble_eq_true rfl) dL_die_15

set_option maxHeartbeats 4000000 in
set_option maxRecDepth 100000 in
theorem c_L_heir (l : Launch) (hst0 : l.stackTraces = false) (D : xD) (sa : Nat → Nat) (xa : xA) (G1 : xG) (σ : Sg) (τ : Tg) (hg : Gd σ) (hL : LL σ τ) (hT : TE σ τ) (fo : Nat → Int64) (hO : G1 30 0 = some (.inl (D.2 6, 1, .inr (.inl fo)))) (x : Int32) (y : Int32) : xCi l yL_heir wsL_heir ({ frames := 18, cells := 3, slots := 18, locals := 600 } : Room) D sa xa (xGs G1 D xa σ τ) [.ref (xa 0 0), .int (x), .int (y), .ref (xa 30 0)] (fun r u => ∃ (k_ : Nat) (f1 : Nat → Int64), gk (pP σ x ∧ pP σ y) (¬ x.toInt = y.toInt) (¬ hH σ (xn x) (xn y)) k_ ∧ r = nI k_ ∧ xPo D xa (xup G1 30 0 (.inl (D.2 6, 1, .inr (.inl f1)))) (t_heir σ x y k_) (k_ = 0 → ∃ a_ : Int32, f1 0 = a_.toInt64 ∧ (a_.toInt = ((σ 4 (xn x) + 1 : Nat) : Int))) u) 3 18 := by
  intro sz
  refine va_MetW (cc := cL_heir) (maxL := 5) (ret := (some .int)) (hh := [(0, 10, 13, 13), (0, 10, 17, 25), (0, 10, 21, 15)]) (by decide +kernel) rfl ?_
  intro p e s m args below meth c s₁ B hml hv
  obtain ⟨rfl, hsz, hv2⟩ := hv
  subst hsz
  have hx := B.exec
  have hb := B.bytes
  have hr := B.returns
  have hts := atoms_spec (ws := wsL_heir) B.pre
  have hown : s.vm.findClass RL = some m.cls := findClass_of_methodNamed B.named
  have hlocks := B.notSynchronized
  have hW := xW.start (s := s) ⟨rfl, hv2⟩
  clear hv2
  generalize xAw xa (xGs G1 D xa σ τ) s.heap.size = A at hW ⊢
  have hl := lv_entry ([.ref (xa 0 0), .int (x), .int (y), .ref (xa 30 0)]) (n := 5) (Nat.le_of_ble_eq_true rfl)
  rw [lg_entry_eq]
  generalize (lg_sl ([.ref (xa 0 0), .int (x), .int (y), .ref (xa 30 0)]) ++ List.replicate (5 - (lg_sl ([.ref (xa 0 0), .int (x), .int (y), .ref (xa 30 0)])).length) Slot.unset).toArray = ls at hl ⊢
  have hl : lv_has ls 5 [(0, .ref (xa 0 0)), (1, .int (x)), (2, .int (y)), (3, .ref (xa 30 0))] := hl
  have htab : c.exceptionTable.toList = [⟨0, 10, 13, 13⟩, ⟨0, 10, 17, 25⟩, ⟨0, 10, 21, 15⟩] := (vx_table (x := yL_heir) B (hts _ List.mem_cons_self)).trans rfl
  refine lv_aload_n hx hb dL_heir_0 rfl (lv_at hl 3 rfl) ?_
  refine lv_iconst (v := nI (0)) hx hb dL_heir_1 (by decide +kernel) ?_
  refine lv_aload_n hx hb dL_heir_2 rfl (lv_at hl 0 rfl) ?_
  refine lv_iload_n hx hb dL_heir_3 rfl (lv_at hl 1 rfl) ?_
  refine lv_iload_n hx hb dL_heir_4 rfl (lv_at hl 2 rfl) ?_
  refine yh_i (k := 0) (i := 0) (As := [.int (x), .int (y)]) (rest := [.int (nI (0)), .ref (xa 30 0)]) ⟨hx, hb, hml, hown, hts⟩ (c_X4_heir l hst0 D sa xa G1 σ τ hg hL hT x y) (cwV 2 hts gL_heir_X4_heir rfl rfl rfl (by decide +kernel) ⟨Nat.le_of_ble_eq_true rfl, Nat.le_of_ble_eq_true rfl⟩) hW (xg_x G1 D xa σ τ) rfl rfl rfl rfl hl.1 (Nat.le_of_ble_eq_true rfl) dL_heir_5 ⟨Nat.le_of_ble_eq_true rfl, Nat.le_of_ble_eq_true rfl⟩ ?_ ?_
  · rintro E ce q9 H locs ⟨k, hgk, hE⟩ hW hce hcv hcl
    rcases hE with ⟨rfl, rfl⟩ | ⟨rfl, rfl⟩ | ⟨rfl, rfl⟩
    ·
      refine vx_catch (name := "java/lang/IndexOutOfBoundsException") hown [] ⟨0, 10, 13, 13⟩ [⟨0, 10, 17, 25⟩, ⟨0, 10, 21, 15⟩] htab (fun z hz => absurd hz List.not_mem_nil) (by decide +kernel) (by decide) (hts (.classLink RL 13 "java/lang/IndexOutOfBoundsException") (by decide +kernel)) (hW.cast (by decide)) hce hcv hcl ?_
      show W _ _ _ _ _ _ _ _ _ _ _ _ _ _ _ (F0 _ 13 ls [.ref q9])
      refine lv_astore (lv' := [(4, .ref (q9)), (0, .ref (xa 0 0)), (1, .int (x)), (2, .int (y)), (3, .ref (xa 30 0))]) hx hb dL_heir_13 hl (by decide) rfl (fun ls hl => ?_)
      have hl : lv_has ls 5 [(0, .ref (xa 0 0)), (1, .int (x)), (2, .int (y)), (3, .ref (xa 30 0)), (4, .ref (q9))] := lv_sub hl [1, 2, 3, 4, 0] rfl
      refine lv_iconst (v := nI (1)) hx hb dL_heir_15 (by decide +kernel) ?_
      exact xe_i hx hb hr rfl hlocks hW ⟨1, fo, hgk, rfl, xa, τ, fun _ _ _ => rfl, by rw [show t_heir σ x y 1 = σ from if_neg (by decide), xup_same hO], by rw [show t_heir σ x y 1 = σ from if_neg (by decide)]; exact hL, by rw [show t_heir σ x y 1 = σ from if_neg (by decide)]; exact hT, fun h => absurd h (by decide)⟩ (Nat.le_of_ble_eq_true rfl) (Nat.le_of_ble_eq_true rfl) dL_heir_16
    ·
      refine vx_catch (name := "java/lang/IllegalArgumentException") hown [⟨0, 10, 13, 13⟩] ⟨0, 10, 17, 25⟩ [⟨0, 10, 21, 15⟩] htab (by
          intro z hz
          simp only [List.mem_cons, List.not_mem_nil, or_false] at hz
          rcases hz with rfl
          · exact Or.inr ⟨by decide, "java/lang/IndexOutOfBoundsException", hts (.classLink RL 13 "java/lang/IndexOutOfBoundsException") (by decide +kernel), hW.Nc (by decide) (by decide) (by decide)⟩) (by decide +kernel) (by decide) (hts (.classLink RL 25 "java/lang/IllegalArgumentException") (by decide +kernel)) (hW.cast (by decide)) hce hcv hcl ?_
      show W _ _ _ _ _ _ _ _ _ _ _ _ _ _ _ (F0 _ 17 ls [.ref q9])
      refine lv_astore (lv' := [(4, .ref (q9)), (0, .ref (xa 0 0)), (1, .int (x)), (2, .int (y)), (3, .ref (xa 30 0))]) hx hb dL_heir_17 hl (by decide) rfl (fun ls hl => ?_)
      have hl : lv_has ls 5 [(0, .ref (xa 0 0)), (1, .int (x)), (2, .int (y)), (3, .ref (xa 30 0)), (4, .ref (q9))] := lv_sub hl [1, 2, 3, 4, 0] rfl
      refine lv_iconst (v := nI (2)) hx hb dL_heir_19 (by decide +kernel) ?_
      exact xe_i hx hb hr rfl hlocks hW ⟨2, fo, hgk, rfl, xa, τ, fun _ _ _ => rfl, by rw [show t_heir σ x y 2 = σ from if_neg (by decide), xup_same hO], by rw [show t_heir σ x y 2 = σ from if_neg (by decide)]; exact hL, by rw [show t_heir σ x y 2 = σ from if_neg (by decide)]; exact hT, fun h => absurd h (by decide)⟩ (Nat.le_of_ble_eq_true rfl) (Nat.le_of_ble_eq_true rfl) dL_heir_20
    ·
      refine vx_catch (name := "java/lang/IllegalStateException") hown [⟨0, 10, 13, 13⟩, ⟨0, 10, 17, 25⟩] ⟨0, 10, 21, 15⟩ [] htab (by
          intro z hz
          simp only [List.mem_cons, List.not_mem_nil, or_false] at hz
          rcases hz with rfl | rfl
          · exact Or.inr ⟨by decide, "java/lang/IndexOutOfBoundsException", hts (.classLink RL 13 "java/lang/IndexOutOfBoundsException") (by decide +kernel), hW.Nc (by decide) (by decide) (by decide)⟩
          · exact Or.inr ⟨by decide, "java/lang/IllegalArgumentException", hts (.classLink RL 25 "java/lang/IllegalArgumentException") (by decide +kernel), hW.Nc (by decide) (by decide) (by decide)⟩) (by decide +kernel) (by decide) (hts (.classLink RL 15 "java/lang/IllegalStateException") (by decide +kernel)) (hW.cast (by decide)) hce hcv hcl ?_
      show W _ _ _ _ _ _ _ _ _ _ _ _ _ _ _ (F0 _ 21 ls [.ref q9])
      refine lv_astore (lv' := [(4, .ref (q9)), (0, .ref (xa 0 0)), (1, .int (x)), (2, .int (y)), (3, .ref (xa 30 0))]) hx hb dL_heir_21 hl (by decide) rfl (fun ls hl => ?_)
      have hl : lv_has ls 5 [(0, .ref (xa 0 0)), (1, .int (x)), (2, .int (y)), (3, .ref (xa 30 0)), (4, .ref (q9))] := lv_sub hl [1, 2, 3, 4, 0] rfl
      refine lv_iconst (v := nI (3)) hx hb dL_heir_23 (by decide +kernel) ?_
      exact xe_i hx hb hr rfl hlocks hW ⟨3, fo, hgk, rfl, xa, τ, fun _ _ _ => rfl, by rw [show t_heir σ x y 3 = σ from if_neg (by decide), xup_same hO], by rw [show t_heir σ x y 3 = σ from if_neg (by decide)]; exact hL, by rw [show t_heir σ x y 3 = σ from if_neg (by decide)]; exact hT, fun h => absurd h (by decide)⟩ (Nat.le_of_ble_eq_true rfl) (Nat.le_of_ble_eq_true rfl) dL_heir_24
  · intro r xa1 G2 H locs hp hW
    obtain ⟨hgk, xa2, τ1, hag, hu, hL1, hT1, hans⟩ := hp
    have hu2 : G2 = _ := congrArg Prod.snd hu
    subst hu2
    have hu1 : xa2 = xa1 := (congrArg Prod.fst hu).symm
    subst hu1
    refine W_stk (st' := [.int r, .int (nI 0), .ref (xa2 30 0)]) (by rw [hag 30 0 (by omega)]) ?_
    have hW : xW D sa A s xa2 (xGs G1 D xa2 (t_heir σ x y 0) τ1) H locs := hW
    refine lv_i2l (v := Int32.toInt64 (r)) hx hb dL_heir_8 rfl ?_
    refine x_lst hx hb hW 30 0 (n := 1) (f := fo) ((if_neg (by omega)).trans hO) 0 rfl (by omega) (by omega) dL_heir_9 fun H locs hW => ?_
    have hW := hW.eqG (xup_G G1 D xa2 (t_heir σ x y 0) τ1 (k := 30) (i := 0) (by omega) (.inl (D.2 6, 1, .inr (.inl (vp_updL fo 0 (Int32.toInt64 (r))))))).symm
    refine lv_goto (tgt := 25) hx hb dL_heir_10 (by decide) ?_
    refine lv_iconst (v := nI (0)) hx hb dL_heir_25 (by decide +kernel) ?_
    exact xe_i hx hb hr rfl hlocks hW ⟨0, vp_updL fo 0 (Int32.toInt64 (r)), hgk, rfl, xa2, τ1, hag, rfl, hL1, hT1, fun _ => ⟨r, if_pos rfl, hans⟩⟩ (Nat.le_of_ble_eq_true rfl) (Nat.le_of_ble_eq_true rfl) dL_heir_26

set_option maxHeartbeats 4000000 in
set_option maxRecDepth 100000 in
theorem c_L_persecution (l : Launch) (hst0 : l.stackTraces = false) (D : xD) (sa : Nat → Nat) (xa : xA) (G1 : xG) (σ : Sg) (τ : Tg) (hg : Gd σ) (hL : LL σ τ) (hT : TE σ τ) (fo : Nat → Int64) (hO : G1 30 0 = some (.inl (D.2 6, 1, .inr (.inl fo)))) (g : Int32) (a : Int32) (f : Int32) (t : Int32) : xCi l yL_persecution wsL_persecution ({ frames := 16, cells := 5, slots := 30, locals := 500 } : Room) D sa xa (xGs G1 D xa σ τ) [.ref (xa 0 0), .int (g), .int (a), .int (f), .int (t), .ref (xa 30 0)] (fun r u => ∃ (k_ : Nat) (f1 : Nat → Int64), gk (rg g 0 3 ∧ pL a) (rg f 1900 2100 ∧ f.toInt ≤ t.toInt ∧ t.toInt ≤ 2100) (σ 7 0 < 20) k_ ∧ r = nI k_ ∧ xPo D xa (xup G1 30 0 (.inl (D.2 6, 1, .inr (.inl f1)))) (t_persecution σ g a f t k_) (k_ = 0 → ∃ a_ : Int32, f1 0 = a_.toInt64 ∧ (a_.toInt = ((σ 7 0 + 1 : Nat) : Int))) u) 5 30 := by
  intro sz
  refine va_MetW (cc := cL_persecution) (maxL := 7) (ret := (some .int)) (hh := [(0, 14, 17, 13), (0, 14, 21, 25), (0, 14, 25, 15)]) (by decide +kernel) rfl ?_
  intro p e s m args below meth c s₁ B hml hv
  obtain ⟨rfl, hsz, hv2⟩ := hv
  subst hsz
  have hx := B.exec
  have hb := B.bytes
  have hr := B.returns
  have hts := atoms_spec (ws := wsL_persecution) B.pre
  have hown : s.vm.findClass RL = some m.cls := findClass_of_methodNamed B.named
  have hlocks := B.notSynchronized
  have hW := xW.start (s := s) ⟨rfl, hv2⟩
  clear hv2
  generalize xAw xa (xGs G1 D xa σ τ) s.heap.size = A at hW ⊢
  have hl := lv_entry ([.ref (xa 0 0), .int (g), .int (a), .int (f), .int (t), .ref (xa 30 0)]) (n := 7) (Nat.le_of_ble_eq_true rfl)
  rw [lg_entry_eq]
  generalize (lg_sl ([.ref (xa 0 0), .int (g), .int (a), .int (f), .int (t), .ref (xa 30 0)]) ++ List.replicate (7 - (lg_sl ([.ref (xa 0 0), .int (g), .int (a), .int (f), .int (t), .ref (xa 30 0)])).length) Slot.unset).toArray = ls at hl ⊢
  have hl : lv_has ls 7 [(0, .ref (xa 0 0)), (1, .int (g)), (2, .int (a)), (3, .int (f)), (4, .int (t)), (5, .ref (xa 30 0))] := hl
  have htab : c.exceptionTable.toList = [⟨0, 14, 17, 13⟩, ⟨0, 14, 21, 25⟩, ⟨0, 14, 25, 15⟩] := (vx_table (x := yL_persecution) B (hts _ List.mem_cons_self)).trans rfl
  refine lv_aload hx hb dL_persecution_0 (lv_at hl 5 rfl) ?_
  refine lv_iconst (v := nI (0)) hx hb dL_persecution_2 (by decide +kernel) ?_
  refine lv_aload_n hx hb dL_persecution_3 rfl (lv_at hl 0 rfl) ?_
  refine lv_iload_n hx hb dL_persecution_4 rfl (lv_at hl 1 rfl) ?_
  refine lv_iload_n hx hb dL_persecution_5 rfl (lv_at hl 2 rfl) ?_
  refine lv_iload_n hx hb dL_persecution_6 rfl (lv_at hl 3 rfl) ?_
  refine lv_iload hx hb dL_persecution_7 (lv_at hl 4 rfl) ?_
  refine yh_i (k := 0) (i := 0) (As := [.int (g), .int (a), .int (f), .int (t)]) (rest := [.int (nI (0)), .ref (xa 30 0)]) ⟨hx, hb, hml, hown, hts⟩ (c_X4_persecution l hst0 D sa xa G1 σ τ hg hL hT g a f t) (cwV 4 hts gL_persecution_X4_persecution rfl rfl rfl (by decide +kernel) ⟨Nat.le_of_ble_eq_true rfl, Nat.le_of_ble_eq_true rfl⟩) hW (xg_x G1 D xa σ τ) rfl rfl rfl rfl hl.1 (Nat.le_of_ble_eq_true rfl) dL_persecution_9 ⟨Nat.le_of_ble_eq_true rfl, Nat.le_of_ble_eq_true rfl⟩ ?_ ?_
  · rintro E ce q9 H locs ⟨k, hgk, hE⟩ hW hce hcv hcl
    rcases hE with ⟨rfl, rfl⟩ | ⟨rfl, rfl⟩ | ⟨rfl, rfl⟩
    ·
      refine vx_catch (name := "java/lang/IndexOutOfBoundsException") hown [] ⟨0, 14, 17, 13⟩ [⟨0, 14, 21, 25⟩, ⟨0, 14, 25, 15⟩] htab (fun z hz => absurd hz List.not_mem_nil) (by decide +kernel) (by decide) (hts (.classLink RL 13 "java/lang/IndexOutOfBoundsException") (by decide +kernel)) (hW.cast (by decide)) hce hcv hcl ?_
      show W _ _ _ _ _ _ _ _ _ _ _ _ _ _ _ (F0 _ 17 ls [.ref q9])
      refine lv_astore (lv' := [(6, .ref (q9)), (0, .ref (xa 0 0)), (1, .int (g)), (2, .int (a)), (3, .int (f)), (4, .int (t)), (5, .ref (xa 30 0))]) hx hb dL_persecution_17 hl (by decide) rfl (fun ls hl => ?_)
      have hl : lv_has ls 7 [(0, .ref (xa 0 0)), (1, .int (g)), (2, .int (a)), (3, .int (f)), (4, .int (t)), (5, .ref (xa 30 0)), (6, .ref (q9))] := lv_sub hl [1, 2, 3, 4, 5, 6, 0] rfl
      refine lv_iconst (v := nI (1)) hx hb dL_persecution_19 (by decide +kernel) ?_
      exact xe_i hx hb hr rfl hlocks hW ⟨1, fo, hgk, rfl, xa, τ, fun _ _ _ => rfl, by rw [show t_persecution σ g a f t 1 = σ from if_neg (by decide), xup_same hO], by rw [show t_persecution σ g a f t 1 = σ from if_neg (by decide)]; exact hL, by rw [show t_persecution σ g a f t 1 = σ from if_neg (by decide)]; exact hT, fun h => absurd h (by decide)⟩ (Nat.le_of_ble_eq_true rfl) (Nat.le_of_ble_eq_true rfl) dL_persecution_20
    ·
      refine vx_catch (name := "java/lang/IllegalArgumentException") hown [⟨0, 14, 17, 13⟩] ⟨0, 14, 21, 25⟩ [⟨0, 14, 25, 15⟩] htab (by
          intro z hz
          simp only [List.mem_cons, List.not_mem_nil, or_false] at hz
          rcases hz with rfl
          · exact Or.inr ⟨by decide, "java/lang/IndexOutOfBoundsException", hts (.classLink RL 13 "java/lang/IndexOutOfBoundsException") (by decide +kernel), hW.Nc (by decide) (by decide) (by decide)⟩) (by decide +kernel) (by decide) (hts (.classLink RL 25 "java/lang/IllegalArgumentException") (by decide +kernel)) (hW.cast (by decide)) hce hcv hcl ?_
      show W _ _ _ _ _ _ _ _ _ _ _ _ _ _ _ (F0 _ 21 ls [.ref q9])
      refine lv_astore (lv' := [(6, .ref (q9)), (0, .ref (xa 0 0)), (1, .int (g)), (2, .int (a)), (3, .int (f)), (4, .int (t)), (5, .ref (xa 30 0))]) hx hb dL_persecution_21 hl (by decide) rfl (fun ls hl => ?_)
      have hl : lv_has ls 7 [(0, .ref (xa 0 0)), (1, .int (g)), (2, .int (a)), (3, .int (f)), (4, .int (t)), (5, .ref (xa 30 0)), (6, .ref (q9))] := lv_sub hl [1, 2, 3, 4, 5, 6, 0] rfl
      refine lv_iconst (v := nI (2)) hx hb dL_persecution_23 (by decide +kernel) ?_
      exact xe_i hx hb hr rfl hlocks hW ⟨2, fo, hgk, rfl, xa, τ, fun _ _ _ => rfl, by rw [show t_persecution σ g a f t 2 = σ from if_neg (by decide), xup_same hO], by rw [show t_persecution σ g a f t 2 = σ from if_neg (by decide)]; exact hL, by rw [show t_persecution σ g a f t 2 = σ from if_neg (by decide)]; exact hT, fun h => absurd h (by decide)⟩ (Nat.le_of_ble_eq_true rfl) (Nat.le_of_ble_eq_true rfl) dL_persecution_24
    ·
      refine vx_catch (name := "java/lang/IllegalStateException") hown [⟨0, 14, 17, 13⟩, ⟨0, 14, 21, 25⟩] ⟨0, 14, 25, 15⟩ [] htab (by
          intro z hz
          simp only [List.mem_cons, List.not_mem_nil, or_false] at hz
          rcases hz with rfl | rfl
          · exact Or.inr ⟨by decide, "java/lang/IndexOutOfBoundsException", hts (.classLink RL 13 "java/lang/IndexOutOfBoundsException") (by decide +kernel), hW.Nc (by decide) (by decide) (by decide)⟩
          · exact Or.inr ⟨by decide, "java/lang/IllegalArgumentException", hts (.classLink RL 25 "java/lang/IllegalArgumentException") (by decide +kernel), hW.Nc (by decide) (by decide) (by decide)⟩) (by decide +kernel) (by decide) (hts (.classLink RL 15 "java/lang/IllegalStateException") (by decide +kernel)) (hW.cast (by decide)) hce hcv hcl ?_
      show W _ _ _ _ _ _ _ _ _ _ _ _ _ _ _ (F0 _ 25 ls [.ref q9])
      refine lv_astore (lv' := [(6, .ref (q9)), (0, .ref (xa 0 0)), (1, .int (g)), (2, .int (a)), (3, .int (f)), (4, .int (t)), (5, .ref (xa 30 0))]) hx hb dL_persecution_25 hl (by decide) rfl (fun ls hl => ?_)
      have hl : lv_has ls 7 [(0, .ref (xa 0 0)), (1, .int (g)), (2, .int (a)), (3, .int (f)), (4, .int (t)), (5, .ref (xa 30 0)), (6, .ref (q9))] := lv_sub hl [1, 2, 3, 4, 5, 6, 0] rfl
      refine lv_iconst (v := nI (3)) hx hb dL_persecution_27 (by decide +kernel) ?_
      exact xe_i hx hb hr rfl hlocks hW ⟨3, fo, hgk, rfl, xa, τ, fun _ _ _ => rfl, by rw [show t_persecution σ g a f t 3 = σ from if_neg (by decide), xup_same hO], by rw [show t_persecution σ g a f t 3 = σ from if_neg (by decide)]; exact hL, by rw [show t_persecution σ g a f t 3 = σ from if_neg (by decide)]; exact hT, fun h => absurd h (by decide)⟩ (Nat.le_of_ble_eq_true rfl) (Nat.le_of_ble_eq_true rfl) dL_persecution_28
  · intro r xa1 G2 H locs hp hW
    obtain ⟨hgk, xa2, τ1, hag, hu, hL1, hT1, hans⟩ := hp
    have hu2 : G2 = _ := congrArg Prod.snd hu
    subst hu2
    have hu1 : xa2 = xa1 := (congrArg Prod.fst hu).symm
    subst hu1
    refine W_stk (st' := [.int r, .int (nI 0), .ref (xa2 30 0)]) (by rw [hag 30 0 (by omega)]) ?_
    have hW : xW D sa A s xa2 (xGs G1 D xa2 (t_persecution σ g a f t 0) τ1) H locs := hW
    refine lv_i2l (v := Int32.toInt64 (r)) hx hb dL_persecution_12 rfl ?_
    refine x_lst hx hb hW 30 0 (n := 1) (f := fo) ((if_neg (by omega)).trans hO) 0 rfl (by omega) (by omega) dL_persecution_13 fun H locs hW => ?_
    have hW := hW.eqG (xup_G G1 D xa2 (t_persecution σ g a f t 0) τ1 (k := 30) (i := 0) (by omega) (.inl (D.2 6, 1, .inr (.inl (vp_updL fo 0 (Int32.toInt64 (r))))))).symm
    refine lv_goto (tgt := 29) hx hb dL_persecution_14 (by decide) ?_
    refine lv_iconst (v := nI (0)) hx hb dL_persecution_29 (by decide +kernel) ?_
    exact xe_i hx hb hr rfl hlocks hW ⟨0, vp_updL fo 0 (Int32.toInt64 (r)), hgk, rfl, xa2, τ1, hag, rfl, hL1, hT1, fun _ => ⟨r, if_pos rfl, hans⟩⟩ (Nat.le_of_ble_eq_true rfl) (Nat.le_of_ble_eq_true rfl) dL_persecution_30

set_option maxHeartbeats 4000000 in
set_option maxRecDepth 100000 in
theorem c_L_faith (l : Launch) (hst0 : l.stackTraces = false) (D : xD) (sa : Nat → Nat) (xa : xA) (G1 : xG) (σ : Sg) (τ : Tg) (hg : Gd σ) (hL : LL σ τ) (hT : TE σ τ) (fo : Nat → Int64) (hO : G1 30 0 = some (.inl (D.2 6, 1, .inr (.inl fo)))) (a : Int32) (y : Int32) : xCi l yL_faith wsL_faith ({ frames := 16, cells := 2, slots := 12, locals := 500 } : Room) D sa xa (xGs G1 D xa σ τ) [.ref (xa 0 0), .int (a), .int (y), .ref (xa 30 0)] (fun r u => ∃ (k_ : Nat) (f1 : Nat → Int64), gk (pL a) (rg y 0 60) (True) k_ ∧ r = nI k_ ∧ xPo D xa (xup G1 30 0 (.inl (D.2 6, 1, .inr (.inl f1)))) (t_faith σ a y k_) (k_ = 0 → ∃ a_ : Int32, f1 0 = a_.toInt64 ∧ (a_.toInt = (σ 8 (xn a) : Int))) u) 2 12 := by
  intro sz
  refine va_MetW (cc := cL_faith) (maxL := 5) (ret := (some .int)) (hh := [(0, 10, 13, 13), (0, 10, 17, 25)]) (by decide +kernel) rfl ?_
  intro p e s m args below meth c s₁ B hml hv
  obtain ⟨rfl, hsz, hv2⟩ := hv
  subst hsz
  have hx := B.exec
  have hb := B.bytes
  have hr := B.returns
  have hts := atoms_spec (ws := wsL_faith) B.pre
  have hown : s.vm.findClass RL = some m.cls := findClass_of_methodNamed B.named
  have hlocks := B.notSynchronized
  have hW := xW.start (s := s) ⟨rfl, hv2⟩
  clear hv2
  generalize xAw xa (xGs G1 D xa σ τ) s.heap.size = A at hW ⊢
  have hl := lv_entry ([.ref (xa 0 0), .int (a), .int (y), .ref (xa 30 0)]) (n := 5) (Nat.le_of_ble_eq_true rfl)
  rw [lg_entry_eq]
  generalize (lg_sl ([.ref (xa 0 0), .int (a), .int (y), .ref (xa 30 0)]) ++ List.replicate (5 - (lg_sl ([.ref (xa 0 0), .int (a), .int (y), .ref (xa 30 0)])).length) Slot.unset).toArray = ls at hl ⊢
  have hl : lv_has ls 5 [(0, .ref (xa 0 0)), (1, .int (a)), (2, .int (y)), (3, .ref (xa 30 0))] := hl
  have htab : c.exceptionTable.toList = [⟨0, 10, 13, 13⟩, ⟨0, 10, 17, 25⟩] := (vx_table (x := yL_faith) B (hts _ List.mem_cons_self)).trans rfl
  refine lv_aload_n hx hb dL_faith_0 rfl (lv_at hl 3 rfl) ?_
  refine lv_iconst (v := nI (0)) hx hb dL_faith_1 (by decide +kernel) ?_
  refine lv_aload_n hx hb dL_faith_2 rfl (lv_at hl 0 rfl) ?_
  refine lv_iload_n hx hb dL_faith_3 rfl (lv_at hl 1 rfl) ?_
  refine lv_iload_n hx hb dL_faith_4 rfl (lv_at hl 2 rfl) ?_
  refine yh_i (k := 0) (i := 0) (As := [.int (a), .int (y)]) (rest := [.int (nI (0)), .ref (xa 30 0)]) ⟨hx, hb, hml, hown, hts⟩ (c_X4_faith l hst0 D sa xa G1 σ τ hg hL hT a y) (cwV 2 hts gL_faith_X4_faith rfl rfl rfl (by decide +kernel) ⟨Nat.le_of_ble_eq_true rfl, Nat.le_of_ble_eq_true rfl⟩) hW (xg_x G1 D xa σ τ) rfl rfl rfl rfl hl.1 (Nat.le_of_ble_eq_true rfl) dL_faith_5 ⟨Nat.le_of_ble_eq_true rfl, Nat.le_of_ble_eq_true rfl⟩ ?_ ?_
  · rintro E ce q9 H locs ⟨k, hgk, hE⟩ hW hce hcv hcl
    rcases hE with ⟨rfl, rfl⟩ | ⟨rfl, rfl⟩ | ⟨rfl, rfl⟩
    ·
      refine vx_catch (name := "java/lang/IndexOutOfBoundsException") hown [] ⟨0, 10, 13, 13⟩ [⟨0, 10, 17, 25⟩] htab (fun z hz => absurd hz List.not_mem_nil) (by decide +kernel) (by decide) (hts (.classLink RL 13 "java/lang/IndexOutOfBoundsException") (by decide +kernel)) (hW.cast (by decide)) hce hcv hcl ?_
      show W _ _ _ _ _ _ _ _ _ _ _ _ _ _ _ (F0 _ 13 ls [.ref q9])
      refine lv_astore (lv' := [(4, .ref (q9)), (0, .ref (xa 0 0)), (1, .int (a)), (2, .int (y)), (3, .ref (xa 30 0))]) hx hb dL_faith_13 hl (by decide) rfl (fun ls hl => ?_)
      have hl : lv_has ls 5 [(0, .ref (xa 0 0)), (1, .int (a)), (2, .int (y)), (3, .ref (xa 30 0)), (4, .ref (q9))] := lv_sub hl [1, 2, 3, 4, 0] rfl
      refine lv_iconst (v := nI (1)) hx hb dL_faith_15 (by decide +kernel) ?_
      exact xe_i hx hb hr rfl hlocks hW ⟨1, fo, hgk, rfl, xa, τ, fun _ _ _ => rfl, by rw [show t_faith σ a y 1 = σ from if_neg (by decide), xup_same hO], by rw [show t_faith σ a y 1 = σ from if_neg (by decide)]; exact hL, by rw [show t_faith σ a y 1 = σ from if_neg (by decide)]; exact hT, fun h => absurd h (by decide)⟩ (Nat.le_of_ble_eq_true rfl) (Nat.le_of_ble_eq_true rfl) dL_faith_16
    ·
      refine vx_catch (name := "java/lang/IllegalArgumentException") hown [⟨0, 10, 13, 13⟩] ⟨0, 10, 17, 25⟩ [] htab (by
          intro z hz
          simp only [List.mem_cons, List.not_mem_nil, or_false] at hz
          rcases hz with rfl
          · exact Or.inr ⟨by decide, "java/lang/IndexOutOfBoundsException", hts (.classLink RL 13 "java/lang/IndexOutOfBoundsException") (by decide +kernel), hW.Nc (by decide) (by decide) (by decide)⟩) (by decide +kernel) (by decide) (hts (.classLink RL 25 "java/lang/IllegalArgumentException") (by decide +kernel)) (hW.cast (by decide)) hce hcv hcl ?_
      show W _ _ _ _ _ _ _ _ _ _ _ _ _ _ _ (F0 _ 17 ls [.ref q9])
      refine lv_astore (lv' := [(4, .ref (q9)), (0, .ref (xa 0 0)), (1, .int (a)), (2, .int (y)), (3, .ref (xa 30 0))]) hx hb dL_faith_17 hl (by decide) rfl (fun ls hl => ?_)
      have hl : lv_has ls 5 [(0, .ref (xa 0 0)), (1, .int (a)), (2, .int (y)), (3, .ref (xa 30 0)), (4, .ref (q9))] := lv_sub hl [1, 2, 3, 4, 0] rfl
      refine lv_iconst (v := nI (2)) hx hb dL_faith_19 (by decide +kernel) ?_
      exact xe_i hx hb hr rfl hlocks hW ⟨2, fo, hgk, rfl, xa, τ, fun _ _ _ => rfl, by rw [show t_faith σ a y 2 = σ from if_neg (by decide), xup_same hO], by rw [show t_faith σ a y 2 = σ from if_neg (by decide)]; exact hL, by rw [show t_faith σ a y 2 = σ from if_neg (by decide)]; exact hT, fun h => absurd h (by decide)⟩ (Nat.le_of_ble_eq_true rfl) (Nat.le_of_ble_eq_true rfl) dL_faith_20
    ·
      exact (gk.no3 hgk).elim
  · intro r xa1 G2 H locs hp hW
    obtain ⟨hgk, xa2, τ1, hag, hu, hL1, hT1, hans⟩ := hp
    have hu2 : G2 = _ := congrArg Prod.snd hu
    subst hu2
    have hu1 : xa2 = xa1 := (congrArg Prod.fst hu).symm
    subst hu1
    refine W_stk (st' := [.int r, .int (nI 0), .ref (xa2 30 0)]) (by rw [hag 30 0 (by omega)]) ?_
    have hW : xW D sa A s xa2 (xGs G1 D xa2 (t_faith σ a y 0) τ1) H locs := hW
    refine lv_i2l (v := Int32.toInt64 (r)) hx hb dL_faith_8 rfl ?_
    refine x_lst hx hb hW 30 0 (n := 1) (f := fo) ((if_neg (by omega)).trans hO) 0 rfl (by omega) (by omega) dL_faith_9 fun H locs hW => ?_
    have hW := hW.eqG (xup_G G1 D xa2 (t_faith σ a y 0) τ1 (k := 30) (i := 0) (by omega) (.inl (D.2 6, 1, .inr (.inl (vp_updL fo 0 (Int32.toInt64 (r))))))).symm
    refine lv_goto (tgt := 21) hx hb dL_faith_10 (by decide) ?_
    refine lv_iconst (v := nI (0)) hx hb dL_faith_21 (by decide +kernel) ?_
    exact xe_i hx hb hr rfl hlocks hW ⟨0, vp_updL fo 0 (Int32.toInt64 (r)), hgk, rfl, xa2, τ1, hag, rfl, hL1, hT1, fun _ => ⟨r, if_pos rfl, hans⟩⟩ (Nat.le_of_ble_eq_true rfl) (Nat.le_of_ble_eq_true rfl) dL_faith_22

set_option maxHeartbeats 4000000 in
set_option maxRecDepth 100000 in
theorem c_L_now (l : Launch) (hst0 : l.stackTraces = false) (D : xD) (sa : Nat → Nat) (xa : xA) (G1 : xG) (σ : Sg) (τ : Tg) (hg : Gd σ) (hL : LL σ τ) (hT : TE σ τ) (fo : Nat → Int64) (hO : G1 30 0 = some (.inl (D.2 6, 1, .inr (.inl fo)))) (y : Int32) : xCi l yL_now wsL_now ({ frames := 16, cells := 1, slots := 6, locals := 500 } : Room) D sa xa (xGs G1 D xa σ τ) [.ref (xa 0 0), .int (y), .ref (xa 30 0)] (fun r u => ∃ (k_ : Nat) (f1 : Nat → Int64), gk (((σ 0 0 : Int) ≤ y.toInt ∧ y.toInt ≤ 2100)) (True) (True) k_ ∧ r = nI k_ ∧ xPo D xa (xup G1 30 0 (.inl (D.2 6, 1, .inr (.inl f1)))) (t_now σ y k_) (k_ = 0 → ∃ a_ : Int32, f1 0 = a_.toInt64 ∧ (a_.toInt = (σ 0 0 : Int))) u) 1 6 := by
  intro sz
  refine va_MetW (cc := cL_now) (maxL := 4) (ret := (some .int)) (hh := [(0, 9, 12, 25)]) (by decide +kernel) rfl ?_
  intro p e s m args below meth c s₁ B hml hv
  obtain ⟨rfl, hsz, hv2⟩ := hv
  subst hsz
  have hx := B.exec
  have hb := B.bytes
  have hr := B.returns
  have hts := atoms_spec (ws := wsL_now) B.pre
  have hown : s.vm.findClass RL = some m.cls := findClass_of_methodNamed B.named
  have hlocks := B.notSynchronized
  have hW := xW.start (s := s) ⟨rfl, hv2⟩
  clear hv2
  generalize xAw xa (xGs G1 D xa σ τ) s.heap.size = A at hW ⊢
  have hl := lv_entry ([.ref (xa 0 0), .int (y), .ref (xa 30 0)]) (n := 4) (Nat.le_of_ble_eq_true rfl)
  rw [lg_entry_eq]
  generalize (lg_sl ([.ref (xa 0 0), .int (y), .ref (xa 30 0)]) ++ List.replicate (4 - (lg_sl ([.ref (xa 0 0), .int (y), .ref (xa 30 0)])).length) Slot.unset).toArray = ls at hl ⊢
  have hl : lv_has ls 4 [(0, .ref (xa 0 0)), (1, .int (y)), (2, .ref (xa 30 0))] := hl
  have htab : c.exceptionTable.toList = [⟨0, 9, 12, 25⟩] := (vx_table (x := yL_now) B (hts _ List.mem_cons_self)).trans rfl
  refine lv_aload_n hx hb dL_now_0 rfl (lv_at hl 2 rfl) ?_
  refine lv_iconst (v := nI (0)) hx hb dL_now_1 (by decide +kernel) ?_
  refine lv_aload_n hx hb dL_now_2 rfl (lv_at hl 0 rfl) ?_
  refine lv_iload_n hx hb dL_now_3 rfl (lv_at hl 1 rfl) ?_
  refine yh_i (k := 0) (i := 0) (As := [.int (y)]) (rest := [.int (nI (0)), .ref (xa 30 0)]) ⟨hx, hb, hml, hown, hts⟩ (c_X4_now l hst0 D sa xa G1 σ τ hg hL hT y) (cwV 1 hts gL_now_X4_now rfl rfl rfl (by decide +kernel) ⟨Nat.le_of_ble_eq_true rfl, Nat.le_of_ble_eq_true rfl⟩) hW (xg_x G1 D xa σ τ) rfl rfl rfl rfl hl.1 (Nat.le_of_ble_eq_true rfl) dL_now_4 ⟨Nat.le_of_ble_eq_true rfl, Nat.le_of_ble_eq_true rfl⟩ ?_ ?_
  · rintro E ce q9 H locs ⟨k, hgk, hE⟩ hW hce hcv hcl
    rcases hE with ⟨rfl, rfl⟩ | ⟨rfl, rfl⟩ | ⟨rfl, rfl⟩
    ·
      refine vx_catch (name := "java/lang/IllegalArgumentException") hown [] ⟨0, 9, 12, 25⟩ [] htab (fun z hz => absurd hz List.not_mem_nil) (by decide +kernel) (by decide) (hts (.classLink RL 25 "java/lang/IllegalArgumentException") (by decide +kernel)) (hW.cast (by decide)) hce hcv hcl ?_
      show W _ _ _ _ _ _ _ _ _ _ _ _ _ _ _ (F0 _ 12 ls [.ref q9])
      refine lv_astore_n (lv' := [(3, .ref (q9)), (0, .ref (xa 0 0)), (1, .int (y)), (2, .ref (xa 30 0))]) hx hb dL_now_12 rfl hl (by decide) rfl (fun ls hl => ?_)
      have hl : lv_has ls 4 [(0, .ref (xa 0 0)), (1, .int (y)), (2, .ref (xa 30 0)), (3, .ref (q9))] := lv_sub hl [1, 2, 3, 0] rfl
      refine lv_iconst (v := nI (1)) hx hb dL_now_13 (by decide +kernel) ?_
      exact xe_i hx hb hr rfl hlocks hW ⟨1, fo, hgk, rfl, xa, τ, fun _ _ _ => rfl, by rw [show t_now σ y 1 = σ from if_neg (by decide), xup_same hO], by rw [show t_now σ y 1 = σ from if_neg (by decide)]; exact hL, by rw [show t_now σ y 1 = σ from if_neg (by decide)]; exact hT, fun h => absurd h (by decide)⟩ (Nat.le_of_ble_eq_true rfl) (Nat.le_of_ble_eq_true rfl) dL_now_14
    ·
      exact (gk.no2 hgk).elim
    ·
      exact (gk.no3 hgk).elim
  · intro r xa1 G2 H locs hp hW
    obtain ⟨hgk, xa2, τ1, hag, hu, hL1, hT1, hans⟩ := hp
    have hu2 : G2 = _ := congrArg Prod.snd hu
    subst hu2
    have hu1 : xa2 = xa1 := (congrArg Prod.fst hu).symm
    subst hu1
    refine W_stk (st' := [.int r, .int (nI 0), .ref (xa2 30 0)]) (by rw [hag 30 0 (by omega)]) ?_
    have hW : xW D sa A s xa2 (xGs G1 D xa2 (t_now σ y 0) τ1) H locs := hW
    refine lv_i2l (v := Int32.toInt64 (r)) hx hb dL_now_7 rfl ?_
    refine x_lst hx hb hW 30 0 (n := 1) (f := fo) ((if_neg (by omega)).trans hO) 0 rfl (by omega) (by omega) dL_now_8 fun H locs hW => ?_
    have hW := hW.eqG (xup_G G1 D xa2 (t_now σ y 0) τ1 (k := 30) (i := 0) (by omega) (.inl (D.2 6, 1, .inr (.inl (vp_updL fo 0 (Int32.toInt64 (r))))))).symm
    refine lv_goto (tgt := 15) hx hb dL_now_9 (by decide) ?_
    refine lv_iconst (v := nI (0)) hx hb dL_now_15 (by decide +kernel) ?_
    exact xe_i hx hb hr rfl hlocks hW ⟨0, vp_updL fo 0 (Int32.toInt64 (r)), hgk, rfl, xa2, τ1, hag, rfl, hL1, hT1, fun _ => ⟨r, if_pos rfl, hans⟩⟩ (Nat.le_of_ble_eq_true rfl) (Nat.le_of_ble_eq_true rfl) dL_now_16

set_option maxHeartbeats 4000000 in
set_option maxRecDepth 100000 in
theorem c_L_thing (l : Launch) (hst0 : l.stackTraces = false) (D : xD) (sa : Nat → Nat) (xa : xA) (G1 : xG) (σ : Sg) (τ : Tg) (hg : Gd σ) (hL : LL σ τ) (hT : TE σ τ) (fo : Nat → Int64) (hO : G1 30 0 = some (.inl (D.2 6, 1, .inr (.inl fo)))) (mk : Int32) (sz : Int32) : xCi l yL_thing wsL_thing ({ frames := 16, cells := 4, slots := 26, locals := 500 } : Room) D sa xa (xGs G1 D xa σ τ) [.ref (xa 0 0), .int (mk), .int (sz), .ref (xa 30 0)] (fun r u => ∃ (k_ : Nat) (f1 : Nat → Int64), gk (rg mk 0 65535 ∧ rg sz 0 1000) (σ 12 0 < 10) (True) k_ ∧ r = nI k_ ∧ xPo D xa (xup G1 30 0 (.inl (D.2 6, 1, .inr (.inl f1)))) (t_thing σ mk sz k_) (k_ = 0 → ∃ a_ : Int32, f1 0 = a_.toInt64 ∧ (a_.toInt = (σ 12 0 : Int))) u) 4 26 := by
  intro sz
  refine va_MetW (cc := cL_thing) (maxL := 5) (ret := (some .int)) (hh := [(0, 10, 13, 25), (0, 10, 17, 15)]) (by decide +kernel) rfl ?_
  intro p e s m args below meth c s₁ B hml hv
  obtain ⟨rfl, hsz, hv2⟩ := hv
  subst hsz
  have hx := B.exec
  have hb := B.bytes
  have hr := B.returns
  have hts := atoms_spec (ws := wsL_thing) B.pre
  have hown : s.vm.findClass RL = some m.cls := findClass_of_methodNamed B.named
  have hlocks := B.notSynchronized
  have hW := xW.start (s := s) ⟨rfl, hv2⟩
  clear hv2
  generalize xAw xa (xGs G1 D xa σ τ) s.heap.size = A at hW ⊢
  have hl := lv_entry ([.ref (xa 0 0), .int (mk), .int (sz), .ref (xa 30 0)]) (n := 5) (Nat.le_of_ble_eq_true rfl)
  rw [lg_entry_eq]
  generalize (lg_sl ([.ref (xa 0 0), .int (mk), .int (sz), .ref (xa 30 0)]) ++ List.replicate (5 - (lg_sl ([.ref (xa 0 0), .int (mk), .int (sz), .ref (xa 30 0)])).length) Slot.unset).toArray = ls at hl ⊢
  have hl : lv_has ls 5 [(0, .ref (xa 0 0)), (1, .int (mk)), (2, .int (sz)), (3, .ref (xa 30 0))] := hl
  have htab : c.exceptionTable.toList = [⟨0, 10, 13, 25⟩, ⟨0, 10, 17, 15⟩] := (vx_table (x := yL_thing) B (hts _ List.mem_cons_self)).trans rfl
  refine lv_aload_n hx hb dL_thing_0 rfl (lv_at hl 3 rfl) ?_
  refine lv_iconst (v := nI (0)) hx hb dL_thing_1 (by decide +kernel) ?_
  refine lv_aload_n hx hb dL_thing_2 rfl (lv_at hl 0 rfl) ?_
  refine lv_iload_n hx hb dL_thing_3 rfl (lv_at hl 1 rfl) ?_
  refine lv_iload_n hx hb dL_thing_4 rfl (lv_at hl 2 rfl) ?_
  refine yh_i (k := 0) (i := 0) (As := [.int (mk), .int (sz)]) (rest := [.int (nI (0)), .ref (xa 30 0)]) ⟨hx, hb, hml, hown, hts⟩ (c_X4_thing l hst0 D sa xa G1 σ τ hg hL hT mk sz) (cwV 2 hts gL_thing_X4_thing rfl rfl rfl (by decide +kernel) ⟨Nat.le_of_ble_eq_true rfl, Nat.le_of_ble_eq_true rfl⟩) hW (xg_x G1 D xa σ τ) rfl rfl rfl rfl hl.1 (Nat.le_of_ble_eq_true rfl) dL_thing_5 ⟨Nat.le_of_ble_eq_true rfl, Nat.le_of_ble_eq_true rfl⟩ ?_ ?_
  · rintro E ce q9 H locs ⟨k, hgk, hE⟩ hW hce hcv hcl
    rcases hE with ⟨rfl, rfl⟩ | ⟨rfl, rfl⟩ | ⟨rfl, rfl⟩
    ·
      refine vx_catch (name := "java/lang/IllegalArgumentException") hown [] ⟨0, 10, 13, 25⟩ [⟨0, 10, 17, 15⟩] htab (fun z hz => absurd hz List.not_mem_nil) (by decide +kernel) (by decide) (hts (.classLink RL 25 "java/lang/IllegalArgumentException") (by decide +kernel)) (hW.cast (by decide)) hce hcv hcl ?_
      show W _ _ _ _ _ _ _ _ _ _ _ _ _ _ _ (F0 _ 13 ls [.ref q9])
      refine lv_astore (lv' := [(4, .ref (q9)), (0, .ref (xa 0 0)), (1, .int (mk)), (2, .int (sz)), (3, .ref (xa 30 0))]) hx hb dL_thing_13 hl (by decide) rfl (fun ls hl => ?_)
      have hl : lv_has ls 5 [(0, .ref (xa 0 0)), (1, .int (mk)), (2, .int (sz)), (3, .ref (xa 30 0)), (4, .ref (q9))] := lv_sub hl [1, 2, 3, 4, 0] rfl
      refine lv_iconst (v := nI (1)) hx hb dL_thing_15 (by decide +kernel) ?_
      exact xe_i hx hb hr rfl hlocks hW ⟨1, fo, hgk, rfl, xa, τ, fun _ _ _ => rfl, by rw [show t_thing σ mk sz 1 = σ from if_neg (by decide), xup_same hO], by rw [show t_thing σ mk sz 1 = σ from if_neg (by decide)]; exact hL, by rw [show t_thing σ mk sz 1 = σ from if_neg (by decide)]; exact hT, fun h => absurd h (by decide)⟩ (Nat.le_of_ble_eq_true rfl) (Nat.le_of_ble_eq_true rfl) dL_thing_16
    ·
      refine vx_catch (name := "java/lang/IllegalStateException") hown [⟨0, 10, 13, 25⟩] ⟨0, 10, 17, 15⟩ [] htab (by
          intro z hz
          simp only [List.mem_cons, List.not_mem_nil, or_false] at hz
          rcases hz with rfl
          · exact Or.inr ⟨by decide, "java/lang/IllegalArgumentException", hts (.classLink RL 25 "java/lang/IllegalArgumentException") (by decide +kernel), hW.Nc (by decide) (by decide) (by decide)⟩) (by decide +kernel) (by decide) (hts (.classLink RL 15 "java/lang/IllegalStateException") (by decide +kernel)) (hW.cast (by decide)) hce hcv hcl ?_
      show W _ _ _ _ _ _ _ _ _ _ _ _ _ _ _ (F0 _ 17 ls [.ref q9])
      refine lv_astore (lv' := [(4, .ref (q9)), (0, .ref (xa 0 0)), (1, .int (mk)), (2, .int (sz)), (3, .ref (xa 30 0))]) hx hb dL_thing_17 hl (by decide) rfl (fun ls hl => ?_)
      have hl : lv_has ls 5 [(0, .ref (xa 0 0)), (1, .int (mk)), (2, .int (sz)), (3, .ref (xa 30 0)), (4, .ref (q9))] := lv_sub hl [1, 2, 3, 4, 0] rfl
      refine lv_iconst (v := nI (2)) hx hb dL_thing_19 (by decide +kernel) ?_
      exact xe_i hx hb hr rfl hlocks hW ⟨2, fo, hgk, rfl, xa, τ, fun _ _ _ => rfl, by rw [show t_thing σ mk sz 2 = σ from if_neg (by decide), xup_same hO], by rw [show t_thing σ mk sz 2 = σ from if_neg (by decide)]; exact hL, by rw [show t_thing σ mk sz 2 = σ from if_neg (by decide)]; exact hT, fun h => absurd h (by decide)⟩ (Nat.le_of_ble_eq_true rfl) (Nat.le_of_ble_eq_true rfl) dL_thing_20
    ·
      exact (gk.no3 hgk).elim
  · intro r xa1 G2 H locs hp hW
    obtain ⟨hgk, xa2, τ1, hag, hu, hL1, hT1, hans⟩ := hp
    have hu2 : G2 = _ := congrArg Prod.snd hu
    subst hu2
    have hu1 : xa2 = xa1 := (congrArg Prod.fst hu).symm
    subst hu1
    refine W_stk (st' := [.int r, .int (nI 0), .ref (xa2 30 0)]) (by rw [hag 30 0 (by omega)]) ?_
    have hW : xW D sa A s xa2 (xGs G1 D xa2 (t_thing σ mk sz 0) τ1) H locs := hW
    refine lv_i2l (v := Int32.toInt64 (r)) hx hb dL_thing_8 rfl ?_
    refine x_lst hx hb hW 30 0 (n := 1) (f := fo) ((if_neg (by omega)).trans hO) 0 rfl (by omega) (by omega) dL_thing_9 fun H locs hW => ?_
    have hW := hW.eqG (xup_G G1 D xa2 (t_thing σ mk sz 0) τ1 (k := 30) (i := 0) (by omega) (.inl (D.2 6, 1, .inr (.inl (vp_updL fo 0 (Int32.toInt64 (r))))))).symm
    refine lv_goto (tgt := 21) hx hb dL_thing_10 (by decide) ?_
    refine lv_iconst (v := nI (0)) hx hb dL_thing_21 (by decide +kernel) ?_
    exact xe_i hx hb hr rfl hlocks hW ⟨0, vp_updL fo 0 (Int32.toInt64 (r)), hgk, rfl, xa2, τ1, hag, rfl, hL1, hT1, fun _ => ⟨r, if_pos rfl, hans⟩⟩ (Nat.le_of_ble_eq_true rfl) (Nat.le_of_ble_eq_true rfl) dL_thing_22

set_option maxHeartbeats 4000000 in
set_option maxRecDepth 100000 in
theorem c_L_mark (l : Launch) (hst0 : l.stackTraces = false) (D : xD) (sa : Nat → Nat) (xa : xA) (G1 : xG) (σ : Sg) (τ : Tg) (hg : Gd σ) (hL : LL σ τ) (hT : TE σ τ) (fo : Nat → Int64) (hO : G1 30 0 = some (.inl (D.2 6, 1, .inr (.inl fo)))) (t : Int32) (b : Int32) (bn : Nat) (hbn : bn < 2) : xCi l yL_mark wsL_mark ({ frames := 16, cells := 2, slots := 12, locals := 500 } : Room) D sa xa (xGs G1 D xa σ τ) [.ref (xa 0 0), .int (t), .int (b), .int (nI (bn)), .ref (xa 30 0)] (fun r u => ∃ (k_ : Nat) (f1 : Nat → Int64), gk (pT σ t) (rg b 0 15) (True) k_ ∧ r = nI k_ ∧ xPo D xa (xup G1 30 0 (.inl (D.2 6, 1, .inr (.inl f1)))) (t_mark σ t b bn k_) (k_ = 0 → tvl (f1 0) (σ 9 (xn t) / 2 ^ (xn b) % 2 = 1)) u) 2 12 := by
  intro sz
  refine va_MetW (cc := cL_mark) (maxL := 6) (ret := (some .int)) (hh := [(0, 19, 22, 13), (0, 19, 26, 25)]) (by decide +kernel) rfl ?_
  intro p e s m args below meth c s₁ B hml hv
  obtain ⟨rfl, hsz, hv2⟩ := hv
  subst hsz
  have hx := B.exec
  have hb := B.bytes
  have hr := B.returns
  have hts := atoms_spec (ws := wsL_mark) B.pre
  have hown : s.vm.findClass RL = some m.cls := findClass_of_methodNamed B.named
  have hlocks := B.notSynchronized
  have hW := xW.start (s := s) ⟨rfl, hv2⟩
  clear hv2
  generalize xAw xa (xGs G1 D xa σ τ) s.heap.size = A at hW ⊢
  have hl := lv_entry ([.ref (xa 0 0), .int (t), .int (b), .int (nI (bn)), .ref (xa 30 0)]) (n := 6) (Nat.le_of_ble_eq_true rfl)
  rw [lg_entry_eq]
  generalize (lg_sl ([.ref (xa 0 0), .int (t), .int (b), .int (nI (bn)), .ref (xa 30 0)]) ++ List.replicate (6 - (lg_sl ([.ref (xa 0 0), .int (t), .int (b), .int (nI (bn)), .ref (xa 30 0)])).length) Slot.unset).toArray = ls at hl ⊢
  have hl : lv_has ls 6 [(0, .ref (xa 0 0)), (1, .int (t)), (2, .int (b)), (3, .int (nI (bn))), (4, .ref (xa 30 0))] := hl
  have htab : c.exceptionTable.toList = [⟨0, 19, 22, 13⟩, ⟨0, 19, 26, 25⟩] := (vx_table (x := yL_mark) B (hts _ List.mem_cons_self)).trans rfl
  refine lv_aload hx hb dL_mark_0 (lv_at hl 4 rfl) ?_
  refine lv_iconst (v := nI (0)) hx hb dL_mark_2 (by decide +kernel) ?_
  refine lv_aload_n hx hb dL_mark_3 rfl (lv_at hl 0 rfl) ?_
  refine lv_iload_n hx hb dL_mark_4 rfl (lv_at hl 1 rfl) ?_
  refine lv_iload_n hx hb dL_mark_5 rfl (lv_at hl 2 rfl) ?_
  refine lv_iload_n hx hb dL_mark_6 rfl (lv_at hl 3 rfl) ?_
  refine yh_i (k := 0) (i := 0) (As := [.int (t), .int (b), .int (nI (bn))]) (rest := [.int (nI (0)), .ref (xa 30 0)]) ⟨hx, hb, hml, hown, hts⟩ (c_X4_mark l hst0 D sa xa G1 σ τ hg hL hT t b bn hbn) (cwV 3 hts gL_mark_X4_mark rfl rfl rfl (by decide +kernel) ⟨Nat.le_of_ble_eq_true rfl, Nat.le_of_ble_eq_true rfl⟩) hW (xg_x G1 D xa σ τ) rfl rfl rfl rfl hl.1 (Nat.le_of_ble_eq_true rfl) dL_mark_7 ⟨Nat.le_of_ble_eq_true rfl, Nat.le_of_ble_eq_true rfl⟩ ?_ ?_
  · rintro E ce q9 H locs ⟨k, hgk, hE⟩ hW hce hcv hcl
    rcases hE with ⟨rfl, rfl⟩ | ⟨rfl, rfl⟩ | ⟨rfl, rfl⟩
    ·
      refine vx_catch (name := "java/lang/IndexOutOfBoundsException") hown [] ⟨0, 19, 22, 13⟩ [⟨0, 19, 26, 25⟩] htab (fun z hz => absurd hz List.not_mem_nil) (by decide +kernel) (by decide) (hts (.classLink RL 13 "java/lang/IndexOutOfBoundsException") (by decide +kernel)) (hW.cast (by decide)) hce hcv hcl ?_
      show W _ _ _ _ _ _ _ _ _ _ _ _ _ _ _ (F0 _ 22 ls [.ref q9])
      refine lv_astore (lv' := [(5, .ref (q9)), (0, .ref (xa 0 0)), (1, .int (t)), (2, .int (b)), (3, .int (nI (bn))), (4, .ref (xa 30 0))]) hx hb dL_mark_22 hl (by decide) rfl (fun ls hl => ?_)
      have hl : lv_has ls 6 [(0, .ref (xa 0 0)), (1, .int (t)), (2, .int (b)), (3, .int (nI (bn))), (4, .ref (xa 30 0)), (5, .ref (q9))] := lv_sub hl [1, 2, 3, 4, 5, 0] rfl
      refine lv_iconst (v := nI (1)) hx hb dL_mark_24 (by decide +kernel) ?_
      exact xe_i hx hb hr rfl hlocks hW ⟨1, fo, hgk, rfl, xa, τ, fun _ _ _ => rfl, by rw [show t_mark σ t b bn 1 = σ from if_neg (by decide), xup_same hO], by rw [show t_mark σ t b bn 1 = σ from if_neg (by decide)]; exact hL, by rw [show t_mark σ t b bn 1 = σ from if_neg (by decide)]; exact hT, fun h => absurd h (by decide)⟩ (Nat.le_of_ble_eq_true rfl) (Nat.le_of_ble_eq_true rfl) dL_mark_25
    ·
      refine vx_catch (name := "java/lang/IllegalArgumentException") hown [⟨0, 19, 22, 13⟩] ⟨0, 19, 26, 25⟩ [] htab (by
          intro z hz
          simp only [List.mem_cons, List.not_mem_nil, or_false] at hz
          rcases hz with rfl
          · exact Or.inr ⟨by decide, "java/lang/IndexOutOfBoundsException", hts (.classLink RL 13 "java/lang/IndexOutOfBoundsException") (by decide +kernel), hW.Nc (by decide) (by decide) (by decide)⟩) (by decide +kernel) (by decide) (hts (.classLink RL 25 "java/lang/IllegalArgumentException") (by decide +kernel)) (hW.cast (by decide)) hce hcv hcl ?_
      show W _ _ _ _ _ _ _ _ _ _ _ _ _ _ _ (F0 _ 26 ls [.ref q9])
      refine lv_astore (lv' := [(5, .ref (q9)), (0, .ref (xa 0 0)), (1, .int (t)), (2, .int (b)), (3, .int (nI (bn))), (4, .ref (xa 30 0))]) hx hb dL_mark_26 hl (by decide) rfl (fun ls hl => ?_)
      have hl : lv_has ls 6 [(0, .ref (xa 0 0)), (1, .int (t)), (2, .int (b)), (3, .int (nI (bn))), (4, .ref (xa 30 0)), (5, .ref (q9))] := lv_sub hl [1, 2, 3, 4, 5, 0] rfl
      refine lv_iconst (v := nI (2)) hx hb dL_mark_28 (by decide +kernel) ?_
      exact xe_i hx hb hr rfl hlocks hW ⟨2, fo, hgk, rfl, xa, τ, fun _ _ _ => rfl, by rw [show t_mark σ t b bn 2 = σ from if_neg (by decide), xup_same hO], by rw [show t_mark σ t b bn 2 = σ from if_neg (by decide)]; exact hL, by rw [show t_mark σ t b bn 2 = σ from if_neg (by decide)]; exact hT, fun h => absurd h (by decide)⟩ (Nat.le_of_ble_eq_true rfl) (Nat.le_of_ble_eq_true rfl) dL_mark_29
    ·
      exact (gk.no3 hgk).elim
  · intro r xa1 G2 H locs hp hW
    obtain ⟨hgk, xa2, τ1, hag, hu, hL1, hT1, hans⟩ := hp
    have hu2 : G2 = _ := congrArg Prod.snd hu
    subst hu2
    have hu1 : xa2 = xa1 := (congrArg Prod.fst hu).symm
    subst hu1
    refine W_stk (st' := [.int r, .int (nI 0), .ref (xa2 30 0)]) (by rw [hag 30 0 (by omega)]) ?_
    have hW : xW D sa A s xa2 (xGs G1 D xa2 (t_mark σ t b bn 0) τ1) H locs := hW
    refine lv_if_eq (tgt := 17) hx hb dL_mark_10 (by decide) (fun c_10 => ?_) (fun c_10 => ?_)
    · -- eq taken
      have c_10 := hans.f c_10
      refine lv_lconst (v := 0) hx hb dL_mark_17 (by decide +kernel) ?_
      refine x_lst hx hb hW 30 0 (n := 1) (f := fo) ((if_neg (by omega)).trans hO) 0 rfl (by omega) (by omega) dL_mark_18 fun H locs hW => ?_
      have hW := hW.eqG (xup_G G1 D xa2 (t_mark σ t b bn 0) τ1 (k := 30) (i := 0) (by omega) (.inl (D.2 6, 1, .inr (.inl (vp_updL fo 0 (0)))))).symm
      refine lv_goto (tgt := 30) hx hb dL_mark_19 (by decide) ?_
      refine lv_iconst (v := nI (0)) hx hb dL_mark_30 (by decide +kernel) ?_
      exact xe_i hx hb hr rfl hlocks hW ⟨0, vp_updL fo 0 (0), hgk, rfl, xa2, τ1, hag, rfl, hL1, hT1, fun _ => Or.inr ⟨c_10, if_pos rfl⟩⟩ (Nat.le_of_ble_eq_true rfl) (Nat.le_of_ble_eq_true rfl) dL_mark_31
    · -- eq not
      have c_10 := hans.t c_10
      refine lv_lconst (v := 1) hx hb dL_mark_13 (by decide +kernel) ?_
      refine lv_goto (tgt := 18) hx hb dL_mark_14 (by decide) ?_
      refine x_lst hx hb hW 30 0 (n := 1) (f := fo) ((if_neg (by omega)).trans hO) 0 rfl (by omega) (by omega) dL_mark_18 fun H locs hW => ?_
      have hW := hW.eqG (xup_G G1 D xa2 (t_mark σ t b bn 0) τ1 (k := 30) (i := 0) (by omega) (.inl (D.2 6, 1, .inr (.inl (vp_updL fo 0 (1)))))).symm
      refine lv_goto (tgt := 30) hx hb dL_mark_19 (by decide) ?_
      refine lv_iconst (v := nI (0)) hx hb dL_mark_30 (by decide +kernel) ?_
      exact xe_i hx hb hr rfl hlocks hW ⟨0, vp_updL fo 0 (1), hgk, rfl, xa2, τ1, hag, rfl, hL1, hT1, fun _ => Or.inl ⟨c_10, if_pos rfl⟩⟩ (Nat.le_of_ble_eq_true rfl) (Nat.le_of_ble_eq_true rfl) dL_mark_31

set_option maxHeartbeats 4000000 in
set_option maxRecDepth 100000 in
theorem c_L_station (l : Launch) (hst0 : l.stackTraces = false) (D : xD) (sa : Nat → Nat) (xa : xA) (G1 : xG) (σ : Sg) (τ : Tg) (hg : Gd σ) (hL : LL σ τ) (hT : TE σ τ) (fo : Nat → Int64) (hO : G1 30 0 = some (.inl (D.2 6, 1, .inr (.inl fo)))) (t : Int32) (q : Int32) (kd : Int32) (a : Int32) (y : Int32) : xCi l yL_station wsL_station ({ frames := 18, cells := 6, slots := 39, locals := 600 } : Room) D sa xa (xGs G1 D xa σ τ) [.ref (xa 0 0), .int (t), .int (q), .int (kd), .int (a), .int (y), .ref (xa 30 0)] (fun r u => ∃ (k_ : Nat) (f1 : Nat → Int64), gk (pT σ t ∧ pP σ q ∧ pL a) (rg kd 0 5 ∧ 1900 ≤ y.toInt ∧ y.toInt ≤ σ 0 0) (σ 11 (xn t) < 8) k_ ∧ r = nI k_ ∧ xPo D xa (xup G1 30 0 (.inl (D.2 6, 1, .inr (.inl f1)))) (t_station σ t q kd a y k_) (k_ = 0 → ∃ a_ : Int32, f1 0 = a_.toInt64 ∧ (a_.toInt = (σ 11 (xn t) : Int))) u) 6 39 := by
  intro sz
  refine va_MetW (cc := cL_station) (maxL := 8) (ret := (some .int)) (hh := [(0, 16, 19, 13), (0, 16, 23, 25), (0, 16, 27, 15)]) (by decide +kernel) rfl ?_
  intro p e s m args below meth c s₁ B hml hv
  obtain ⟨rfl, hsz, hv2⟩ := hv
  subst hsz
  have hx := B.exec
  have hb := B.bytes
  have hr := B.returns
  have hts := atoms_spec (ws := wsL_station) B.pre
  have hown : s.vm.findClass RL = some m.cls := findClass_of_methodNamed B.named
  have hlocks := B.notSynchronized
  have hW := xW.start (s := s) ⟨rfl, hv2⟩
  clear hv2
  generalize xAw xa (xGs G1 D xa σ τ) s.heap.size = A at hW ⊢
  have hl := lv_entry ([.ref (xa 0 0), .int (t), .int (q), .int (kd), .int (a), .int (y), .ref (xa 30 0)]) (n := 8) (Nat.le_of_ble_eq_true rfl)
  rw [lg_entry_eq]
  generalize (lg_sl ([.ref (xa 0 0), .int (t), .int (q), .int (kd), .int (a), .int (y), .ref (xa 30 0)]) ++ List.replicate (8 - (lg_sl ([.ref (xa 0 0), .int (t), .int (q), .int (kd), .int (a), .int (y), .ref (xa 30 0)])).length) Slot.unset).toArray = ls at hl ⊢
  have hl : lv_has ls 8 [(0, .ref (xa 0 0)), (1, .int (t)), (2, .int (q)), (3, .int (kd)), (4, .int (a)), (5, .int (y)), (6, .ref (xa 30 0))] := hl
  have htab : c.exceptionTable.toList = [⟨0, 16, 19, 13⟩, ⟨0, 16, 23, 25⟩, ⟨0, 16, 27, 15⟩] := (vx_table (x := yL_station) B (hts _ List.mem_cons_self)).trans rfl
  refine lv_aload hx hb dL_station_0 (lv_at hl 6 rfl) ?_
  refine lv_iconst (v := nI (0)) hx hb dL_station_2 (by decide +kernel) ?_
  refine lv_aload_n hx hb dL_station_3 rfl (lv_at hl 0 rfl) ?_
  refine lv_iload_n hx hb dL_station_4 rfl (lv_at hl 1 rfl) ?_
  refine lv_iload_n hx hb dL_station_5 rfl (lv_at hl 2 rfl) ?_
  refine lv_iload_n hx hb dL_station_6 rfl (lv_at hl 3 rfl) ?_
  refine lv_iload hx hb dL_station_7 (lv_at hl 4 rfl) ?_
  refine lv_iload hx hb dL_station_9 (lv_at hl 5 rfl) ?_
  refine yh_i (k := 0) (i := 0) (As := [.int (t), .int (q), .int (kd), .int (a), .int (y)]) (rest := [.int (nI (0)), .ref (xa 30 0)]) ⟨hx, hb, hml, hown, hts⟩ (c_X4_station l hst0 D sa xa G1 σ τ hg hL hT t q kd a y) (cwV 5 hts gL_station_X4_station rfl rfl rfl (by decide +kernel) ⟨Nat.le_of_ble_eq_true rfl, Nat.le_of_ble_eq_true rfl⟩) hW (xg_x G1 D xa σ τ) rfl rfl rfl rfl hl.1 (Nat.le_of_ble_eq_true rfl) dL_station_11 ⟨Nat.le_of_ble_eq_true rfl, Nat.le_of_ble_eq_true rfl⟩ ?_ ?_
  · rintro E ce q9 H locs ⟨k, hgk, hE⟩ hW hce hcv hcl
    rcases hE with ⟨rfl, rfl⟩ | ⟨rfl, rfl⟩ | ⟨rfl, rfl⟩
    ·
      refine vx_catch (name := "java/lang/IndexOutOfBoundsException") hown [] ⟨0, 16, 19, 13⟩ [⟨0, 16, 23, 25⟩, ⟨0, 16, 27, 15⟩] htab (fun z hz => absurd hz List.not_mem_nil) (by decide +kernel) (by decide) (hts (.classLink RL 13 "java/lang/IndexOutOfBoundsException") (by decide +kernel)) (hW.cast (by decide)) hce hcv hcl ?_
      show W _ _ _ _ _ _ _ _ _ _ _ _ _ _ _ (F0 _ 19 ls [.ref q9])
      refine lv_astore (lv' := [(7, .ref (q9)), (0, .ref (xa 0 0)), (1, .int (t)), (2, .int (q)), (3, .int (kd)), (4, .int (a)), (5, .int (y)), (6, .ref (xa 30 0))]) hx hb dL_station_19 hl (by decide) rfl (fun ls hl => ?_)
      have hl : lv_has ls 8 [(0, .ref (xa 0 0)), (1, .int (t)), (2, .int (q)), (3, .int (kd)), (4, .int (a)), (5, .int (y)), (6, .ref (xa 30 0)), (7, .ref (q9))] := lv_sub hl [1, 2, 3, 4, 5, 6, 7, 0] rfl
      refine lv_iconst (v := nI (1)) hx hb dL_station_21 (by decide +kernel) ?_
      exact xe_i hx hb hr rfl hlocks hW ⟨1, fo, hgk, rfl, xa, τ, fun _ _ _ => rfl, by rw [show t_station σ t q kd a y 1 = σ from if_neg (by decide), xup_same hO], by rw [show t_station σ t q kd a y 1 = σ from if_neg (by decide)]; exact hL, by rw [show t_station σ t q kd a y 1 = σ from if_neg (by decide)]; exact hT, fun h => absurd h (by decide)⟩ (Nat.le_of_ble_eq_true rfl) (Nat.le_of_ble_eq_true rfl) dL_station_22
    ·
      refine vx_catch (name := "java/lang/IllegalArgumentException") hown [⟨0, 16, 19, 13⟩] ⟨0, 16, 23, 25⟩ [⟨0, 16, 27, 15⟩] htab (by
          intro z hz
          simp only [List.mem_cons, List.not_mem_nil, or_false] at hz
          rcases hz with rfl
          · exact Or.inr ⟨by decide, "java/lang/IndexOutOfBoundsException", hts (.classLink RL 13 "java/lang/IndexOutOfBoundsException") (by decide +kernel), hW.Nc (by decide) (by decide) (by decide)⟩) (by decide +kernel) (by decide) (hts (.classLink RL 25 "java/lang/IllegalArgumentException") (by decide +kernel)) (hW.cast (by decide)) hce hcv hcl ?_
      show W _ _ _ _ _ _ _ _ _ _ _ _ _ _ _ (F0 _ 23 ls [.ref q9])
      refine lv_astore (lv' := [(7, .ref (q9)), (0, .ref (xa 0 0)), (1, .int (t)), (2, .int (q)), (3, .int (kd)), (4, .int (a)), (5, .int (y)), (6, .ref (xa 30 0))]) hx hb dL_station_23 hl (by decide) rfl (fun ls hl => ?_)
      have hl : lv_has ls 8 [(0, .ref (xa 0 0)), (1, .int (t)), (2, .int (q)), (3, .int (kd)), (4, .int (a)), (5, .int (y)), (6, .ref (xa 30 0)), (7, .ref (q9))] := lv_sub hl [1, 2, 3, 4, 5, 6, 7, 0] rfl
      refine lv_iconst (v := nI (2)) hx hb dL_station_25 (by decide +kernel) ?_
      exact xe_i hx hb hr rfl hlocks hW ⟨2, fo, hgk, rfl, xa, τ, fun _ _ _ => rfl, by rw [show t_station σ t q kd a y 2 = σ from if_neg (by decide), xup_same hO], by rw [show t_station σ t q kd a y 2 = σ from if_neg (by decide)]; exact hL, by rw [show t_station σ t q kd a y 2 = σ from if_neg (by decide)]; exact hT, fun h => absurd h (by decide)⟩ (Nat.le_of_ble_eq_true rfl) (Nat.le_of_ble_eq_true rfl) dL_station_26
    ·
      refine vx_catch (name := "java/lang/IllegalStateException") hown [⟨0, 16, 19, 13⟩, ⟨0, 16, 23, 25⟩] ⟨0, 16, 27, 15⟩ [] htab (by
          intro z hz
          simp only [List.mem_cons, List.not_mem_nil, or_false] at hz
          rcases hz with rfl | rfl
          · exact Or.inr ⟨by decide, "java/lang/IndexOutOfBoundsException", hts (.classLink RL 13 "java/lang/IndexOutOfBoundsException") (by decide +kernel), hW.Nc (by decide) (by decide) (by decide)⟩
          · exact Or.inr ⟨by decide, "java/lang/IllegalArgumentException", hts (.classLink RL 25 "java/lang/IllegalArgumentException") (by decide +kernel), hW.Nc (by decide) (by decide) (by decide)⟩) (by decide +kernel) (by decide) (hts (.classLink RL 15 "java/lang/IllegalStateException") (by decide +kernel)) (hW.cast (by decide)) hce hcv hcl ?_
      show W _ _ _ _ _ _ _ _ _ _ _ _ _ _ _ (F0 _ 27 ls [.ref q9])
      refine lv_astore (lv' := [(7, .ref (q9)), (0, .ref (xa 0 0)), (1, .int (t)), (2, .int (q)), (3, .int (kd)), (4, .int (a)), (5, .int (y)), (6, .ref (xa 30 0))]) hx hb dL_station_27 hl (by decide) rfl (fun ls hl => ?_)
      have hl : lv_has ls 8 [(0, .ref (xa 0 0)), (1, .int (t)), (2, .int (q)), (3, .int (kd)), (4, .int (a)), (5, .int (y)), (6, .ref (xa 30 0)), (7, .ref (q9))] := lv_sub hl [1, 2, 3, 4, 5, 6, 7, 0] rfl
      refine lv_iconst (v := nI (3)) hx hb dL_station_29 (by decide +kernel) ?_
      exact xe_i hx hb hr rfl hlocks hW ⟨3, fo, hgk, rfl, xa, τ, fun _ _ _ => rfl, by rw [show t_station σ t q kd a y 3 = σ from if_neg (by decide), xup_same hO], by rw [show t_station σ t q kd a y 3 = σ from if_neg (by decide)]; exact hL, by rw [show t_station σ t q kd a y 3 = σ from if_neg (by decide)]; exact hT, fun h => absurd h (by decide)⟩ (Nat.le_of_ble_eq_true rfl) (Nat.le_of_ble_eq_true rfl) dL_station_30
  · intro r xa1 G2 H locs hp hW
    obtain ⟨hgk, xa2, τ1, hag, hu, hL1, hT1, hans⟩ := hp
    have hu2 : G2 = _ := congrArg Prod.snd hu
    subst hu2
    have hu1 : xa2 = xa1 := (congrArg Prod.fst hu).symm
    subst hu1
    refine W_stk (st' := [.int r, .int (nI 0), .ref (xa2 30 0)]) (by rw [hag 30 0 (by omega)]) ?_
    have hW : xW D sa A s xa2 (xGs G1 D xa2 (t_station σ t q kd a y 0) τ1) H locs := hW
    refine lv_i2l (v := Int32.toInt64 (r)) hx hb dL_station_14 rfl ?_
    refine x_lst hx hb hW 30 0 (n := 1) (f := fo) ((if_neg (by omega)).trans hO) 0 rfl (by omega) (by omega) dL_station_15 fun H locs hW => ?_
    have hW := hW.eqG (xup_G G1 D xa2 (t_station σ t q kd a y 0) τ1 (k := 30) (i := 0) (by omega) (.inl (D.2 6, 1, .inr (.inl (vp_updL fo 0 (Int32.toInt64 (r))))))).symm
    refine lv_goto (tgt := 31) hx hb dL_station_16 (by decide) ?_
    refine lv_iconst (v := nI (0)) hx hb dL_station_31 (by decide +kernel) ?_
    exact xe_i hx hb hr rfl hlocks hW ⟨0, vp_updL fo 0 (Int32.toInt64 (r)), hgk, rfl, xa2, τ1, hag, rfl, hL1, hT1, fun _ => ⟨r, if_pos rfl, hans⟩⟩ (Nat.le_of_ble_eq_true rfl) (Nat.le_of_ble_eq_true rfl) dL_station_32

set_option maxHeartbeats 4000000 in
set_option maxRecDepth 100000 in
theorem c_L_rebut (l : Launch) (hst0 : l.stackTraces = false) (D : xD) (sa : Nat → Nat) (xa : xA) (G1 : xG) (σ : Sg) (τ : Tg) (hg : Gd σ) (hL : LL σ τ) (hT : TE σ τ) (fo : Nat → Int64) (hO : G1 30 0 = some (.inl (D.2 6, 1, .inr (.inl fo)))) (t : Int32) (x : Int32) (bn : Nat) (hbn : bn < 2) : xCi l yL_rebut wsL_rebut ({ frames := 20, cells := 3, slots := 18, locals := 700 } : Room) D sa xa (xGs G1 D xa σ τ) [.ref (xa 0 0), .int (t), .int (x), .int (nI (bn)), .ref (xa 30 0)] (fun r u => ∃ (k_ : Nat) (f1 : Nat → Int64), gk (pS σ t x) (σ 14 (8 * xn t + xn x) = 0) (True) k_ ∧ r = nI k_ ∧ xPo D xa (xup G1 30 0 (.inl (D.2 6, 1, .inr (.inl f1)))) (t_rebut σ t x bn k_) (k_ = 0 → tvl (f1 0) (σ 17 (8 * xn t + xn x) = 1)) u) 3 18 := by
  intro sz
  refine va_MetW (cc := cL_rebut) (maxL := 6) (ret := (some .int)) (hh := [(0, 19, 22, 13), (0, 19, 26, 25)]) (by decide +kernel) rfl ?_
  intro p e s m args below meth c s₁ B hml hv
  obtain ⟨rfl, hsz, hv2⟩ := hv
  subst hsz
  have hx := B.exec
  have hb := B.bytes
  have hr := B.returns
  have hts := atoms_spec (ws := wsL_rebut) B.pre
  have hown : s.vm.findClass RL = some m.cls := findClass_of_methodNamed B.named
  have hlocks := B.notSynchronized
  have hW := xW.start (s := s) ⟨rfl, hv2⟩
  clear hv2
  generalize xAw xa (xGs G1 D xa σ τ) s.heap.size = A at hW ⊢
  have hl := lv_entry ([.ref (xa 0 0), .int (t), .int (x), .int (nI (bn)), .ref (xa 30 0)]) (n := 6) (Nat.le_of_ble_eq_true rfl)
  rw [lg_entry_eq]
  generalize (lg_sl ([.ref (xa 0 0), .int (t), .int (x), .int (nI (bn)), .ref (xa 30 0)]) ++ List.replicate (6 - (lg_sl ([.ref (xa 0 0), .int (t), .int (x), .int (nI (bn)), .ref (xa 30 0)])).length) Slot.unset).toArray = ls at hl ⊢
  have hl : lv_has ls 6 [(0, .ref (xa 0 0)), (1, .int (t)), (2, .int (x)), (3, .int (nI (bn))), (4, .ref (xa 30 0))] := hl
  have htab : c.exceptionTable.toList = [⟨0, 19, 22, 13⟩, ⟨0, 19, 26, 25⟩] := (vx_table (x := yL_rebut) B (hts _ List.mem_cons_self)).trans rfl
  refine lv_aload hx hb dL_rebut_0 (lv_at hl 4 rfl) ?_
  refine lv_iconst (v := nI (0)) hx hb dL_rebut_2 (by decide +kernel) ?_
  refine lv_aload_n hx hb dL_rebut_3 rfl (lv_at hl 0 rfl) ?_
  refine lv_iload_n hx hb dL_rebut_4 rfl (lv_at hl 1 rfl) ?_
  refine lv_iload_n hx hb dL_rebut_5 rfl (lv_at hl 2 rfl) ?_
  refine lv_iload_n hx hb dL_rebut_6 rfl (lv_at hl 3 rfl) ?_
  refine yh_i (k := 0) (i := 0) (As := [.int (t), .int (x), .int (nI (bn))]) (rest := [.int (nI (0)), .ref (xa 30 0)]) ⟨hx, hb, hml, hown, hts⟩ (c_X4_rebut l hst0 D sa xa G1 σ τ hg hL hT t x bn hbn) (cwV 3 hts gL_rebut_X4_rebut rfl rfl rfl (by decide +kernel) ⟨Nat.le_of_ble_eq_true rfl, Nat.le_of_ble_eq_true rfl⟩) hW (xg_x G1 D xa σ τ) rfl rfl rfl rfl hl.1 (Nat.le_of_ble_eq_true rfl) dL_rebut_7 ⟨Nat.le_of_ble_eq_true rfl, Nat.le_of_ble_eq_true rfl⟩ ?_ ?_
  · rintro E ce q9 H locs ⟨k, hgk, hE⟩ hW hce hcv hcl
    rcases hE with ⟨rfl, rfl⟩ | ⟨rfl, rfl⟩ | ⟨rfl, rfl⟩
    ·
      refine vx_catch (name := "java/lang/IndexOutOfBoundsException") hown [] ⟨0, 19, 22, 13⟩ [⟨0, 19, 26, 25⟩] htab (fun z hz => absurd hz List.not_mem_nil) (by decide +kernel) (by decide) (hts (.classLink RL 13 "java/lang/IndexOutOfBoundsException") (by decide +kernel)) (hW.cast (by decide)) hce hcv hcl ?_
      show W _ _ _ _ _ _ _ _ _ _ _ _ _ _ _ (F0 _ 22 ls [.ref q9])
      refine lv_astore (lv' := [(5, .ref (q9)), (0, .ref (xa 0 0)), (1, .int (t)), (2, .int (x)), (3, .int (nI (bn))), (4, .ref (xa 30 0))]) hx hb dL_rebut_22 hl (by decide) rfl (fun ls hl => ?_)
      have hl : lv_has ls 6 [(0, .ref (xa 0 0)), (1, .int (t)), (2, .int (x)), (3, .int (nI (bn))), (4, .ref (xa 30 0)), (5, .ref (q9))] := lv_sub hl [1, 2, 3, 4, 5, 0] rfl
      refine lv_iconst (v := nI (1)) hx hb dL_rebut_24 (by decide +kernel) ?_
      exact xe_i hx hb hr rfl hlocks hW ⟨1, fo, hgk, rfl, xa, τ, fun _ _ _ => rfl, by rw [show t_rebut σ t x bn 1 = σ from if_neg (by decide), xup_same hO], by rw [show t_rebut σ t x bn 1 = σ from if_neg (by decide)]; exact hL, by rw [show t_rebut σ t x bn 1 = σ from if_neg (by decide)]; exact hT, fun h => absurd h (by decide)⟩ (Nat.le_of_ble_eq_true rfl) (Nat.le_of_ble_eq_true rfl) dL_rebut_25
    ·
      refine vx_catch (name := "java/lang/IllegalArgumentException") hown [⟨0, 19, 22, 13⟩] ⟨0, 19, 26, 25⟩ [] htab (by
          intro z hz
          simp only [List.mem_cons, List.not_mem_nil, or_false] at hz
          rcases hz with rfl
          · exact Or.inr ⟨by decide, "java/lang/IndexOutOfBoundsException", hts (.classLink RL 13 "java/lang/IndexOutOfBoundsException") (by decide +kernel), hW.Nc (by decide) (by decide) (by decide)⟩) (by decide +kernel) (by decide) (hts (.classLink RL 25 "java/lang/IllegalArgumentException") (by decide +kernel)) (hW.cast (by decide)) hce hcv hcl ?_
      show W _ _ _ _ _ _ _ _ _ _ _ _ _ _ _ (F0 _ 26 ls [.ref q9])
      refine lv_astore (lv' := [(5, .ref (q9)), (0, .ref (xa 0 0)), (1, .int (t)), (2, .int (x)), (3, .int (nI (bn))), (4, .ref (xa 30 0))]) hx hb dL_rebut_26 hl (by decide) rfl (fun ls hl => ?_)
      have hl : lv_has ls 6 [(0, .ref (xa 0 0)), (1, .int (t)), (2, .int (x)), (3, .int (nI (bn))), (4, .ref (xa 30 0)), (5, .ref (q9))] := lv_sub hl [1, 2, 3, 4, 5, 0] rfl
      refine lv_iconst (v := nI (2)) hx hb dL_rebut_28 (by decide +kernel) ?_
      exact xe_i hx hb hr rfl hlocks hW ⟨2, fo, hgk, rfl, xa, τ, fun _ _ _ => rfl, by rw [show t_rebut σ t x bn 2 = σ from if_neg (by decide), xup_same hO], by rw [show t_rebut σ t x bn 2 = σ from if_neg (by decide)]; exact hL, by rw [show t_rebut σ t x bn 2 = σ from if_neg (by decide)]; exact hT, fun h => absurd h (by decide)⟩ (Nat.le_of_ble_eq_true rfl) (Nat.le_of_ble_eq_true rfl) dL_rebut_29
    ·
      exact (gk.no3 hgk).elim
  · intro r xa1 G2 H locs hp hW
    obtain ⟨hgk, xa2, τ1, hag, hu, hL1, hT1, hans⟩ := hp
    have hu2 : G2 = _ := congrArg Prod.snd hu
    subst hu2
    have hu1 : xa2 = xa1 := (congrArg Prod.fst hu).symm
    subst hu1
    refine W_stk (st' := [.int r, .int (nI 0), .ref (xa2 30 0)]) (by rw [hag 30 0 (by omega)]) ?_
    have hW : xW D sa A s xa2 (xGs G1 D xa2 (t_rebut σ t x bn 0) τ1) H locs := hW
    refine lv_if_eq (tgt := 17) hx hb dL_rebut_10 (by decide) (fun c_10 => ?_) (fun c_10 => ?_)
    · -- eq taken
      have c_10 := hans.f c_10
      refine lv_lconst (v := 0) hx hb dL_rebut_17 (by decide +kernel) ?_
      refine x_lst hx hb hW 30 0 (n := 1) (f := fo) ((if_neg (by omega)).trans hO) 0 rfl (by omega) (by omega) dL_rebut_18 fun H locs hW => ?_
      have hW := hW.eqG (xup_G G1 D xa2 (t_rebut σ t x bn 0) τ1 (k := 30) (i := 0) (by omega) (.inl (D.2 6, 1, .inr (.inl (vp_updL fo 0 (0)))))).symm
      refine lv_goto (tgt := 30) hx hb dL_rebut_19 (by decide) ?_
      refine lv_iconst (v := nI (0)) hx hb dL_rebut_30 (by decide +kernel) ?_
      exact xe_i hx hb hr rfl hlocks hW ⟨0, vp_updL fo 0 (0), hgk, rfl, xa2, τ1, hag, rfl, hL1, hT1, fun _ => Or.inr ⟨c_10, if_pos rfl⟩⟩ (Nat.le_of_ble_eq_true rfl) (Nat.le_of_ble_eq_true rfl) dL_rebut_31
    · -- eq not
      have c_10 := hans.t c_10
      refine lv_lconst (v := 1) hx hb dL_rebut_13 (by decide +kernel) ?_
      refine lv_goto (tgt := 18) hx hb dL_rebut_14 (by decide) ?_
      refine x_lst hx hb hW 30 0 (n := 1) (f := fo) ((if_neg (by omega)).trans hO) 0 rfl (by omega) (by omega) dL_rebut_18 fun H locs hW => ?_
      have hW := hW.eqG (xup_G G1 D xa2 (t_rebut σ t x bn 0) τ1 (k := 30) (i := 0) (by omega) (.inl (D.2 6, 1, .inr (.inl (vp_updL fo 0 (1)))))).symm
      refine lv_goto (tgt := 30) hx hb dL_rebut_19 (by decide) ?_
      refine lv_iconst (v := nI (0)) hx hb dL_rebut_30 (by decide +kernel) ?_
      exact xe_i hx hb hr rfl hlocks hW ⟨0, vp_updL fo 0 (1), hgk, rfl, xa2, τ1, hag, rfl, hL1, hT1, fun _ => Or.inl ⟨c_10, if_pos rfl⟩⟩ (Nat.le_of_ble_eq_true rfl) (Nat.le_of_ble_eq_true rfl) dL_rebut_31

set_option maxHeartbeats 4000000 in
set_option maxRecDepth 100000 in
theorem c_L_settle (l : Launch) (hst0 : l.stackTraces = false) (D : xD) (sa : Nat → Nat) (xa : xA) (G1 : xG) (σ : Sg) (τ : Tg) (hg : Gd σ) (hL : LL σ τ) (hT : TE σ τ) (fo : Nat → Int64) (hO : G1 30 0 = some (.inl (D.2 6, 1, .inr (.inl fo)))) (t : Int32) (x : Int32) (bn : Nat) (hbn : bn < 2) : xCi l yL_settle wsL_settle ({ frames := 20, cells := 3, slots := 18, locals := 700 } : Room) D sa xa (xGs G1 D xa σ τ) [.ref (xa 0 0), .int (t), .int (x), .int (nI (bn)), .ref (xa 30 0)] (fun r u => ∃ (k_ : Nat) (f1 : Nat → Int64), gk (pS σ t x) (True) (True) k_ ∧ r = nI k_ ∧ xPo D xa (xup G1 30 0 (.inl (D.2 6, 1, .inr (.inl f1)))) (t_settle σ t x bn k_) (k_ = 0 → tvl (f1 0) (σ 18 (8 * xn t + xn x) = 1)) u) 3 18 := by
  intro sz
  refine va_MetW (cc := cL_settle) (maxL := 6) (ret := (some .int)) (hh := [(0, 19, 22, 13)]) (by decide +kernel) rfl ?_
  intro p e s m args below meth c s₁ B hml hv
  obtain ⟨rfl, hsz, hv2⟩ := hv
  subst hsz
  have hx := B.exec
  have hb := B.bytes
  have hr := B.returns
  have hts := atoms_spec (ws := wsL_settle) B.pre
  have hown : s.vm.findClass RL = some m.cls := findClass_of_methodNamed B.named
  have hlocks := B.notSynchronized
  have hW := xW.start (s := s) ⟨rfl, hv2⟩
  clear hv2
  generalize xAw xa (xGs G1 D xa σ τ) s.heap.size = A at hW ⊢
  have hl := lv_entry ([.ref (xa 0 0), .int (t), .int (x), .int (nI (bn)), .ref (xa 30 0)]) (n := 6) (Nat.le_of_ble_eq_true rfl)
  rw [lg_entry_eq]
  generalize (lg_sl ([.ref (xa 0 0), .int (t), .int (x), .int (nI (bn)), .ref (xa 30 0)]) ++ List.replicate (6 - (lg_sl ([.ref (xa 0 0), .int (t), .int (x), .int (nI (bn)), .ref (xa 30 0)])).length) Slot.unset).toArray = ls at hl ⊢
  have hl : lv_has ls 6 [(0, .ref (xa 0 0)), (1, .int (t)), (2, .int (x)), (3, .int (nI (bn))), (4, .ref (xa 30 0))] := hl
  have htab : c.exceptionTable.toList = [⟨0, 19, 22, 13⟩] := (vx_table (x := yL_settle) B (hts _ List.mem_cons_self)).trans rfl
  refine lv_aload hx hb dL_settle_0 (lv_at hl 4 rfl) ?_
  refine lv_iconst (v := nI (0)) hx hb dL_settle_2 (by decide +kernel) ?_
  refine lv_aload_n hx hb dL_settle_3 rfl (lv_at hl 0 rfl) ?_
  refine lv_iload_n hx hb dL_settle_4 rfl (lv_at hl 1 rfl) ?_
  refine lv_iload_n hx hb dL_settle_5 rfl (lv_at hl 2 rfl) ?_
  refine lv_iload_n hx hb dL_settle_6 rfl (lv_at hl 3 rfl) ?_
  refine yh_i (k := 0) (i := 0) (As := [.int (t), .int (x), .int (nI (bn))]) (rest := [.int (nI (0)), .ref (xa 30 0)]) ⟨hx, hb, hml, hown, hts⟩ (c_X4_settle l hst0 D sa xa G1 σ τ hg hL hT t x bn hbn) (cwV 3 hts gL_settle_X4_settle rfl rfl rfl (by decide +kernel) ⟨Nat.le_of_ble_eq_true rfl, Nat.le_of_ble_eq_true rfl⟩) hW (xg_x G1 D xa σ τ) rfl rfl rfl rfl hl.1 (Nat.le_of_ble_eq_true rfl) dL_settle_7 ⟨Nat.le_of_ble_eq_true rfl, Nat.le_of_ble_eq_true rfl⟩ ?_ ?_
  · rintro E ce q9 H locs ⟨k, hgk, hE⟩ hW hce hcv hcl
    rcases hE with ⟨rfl, rfl⟩ | ⟨rfl, rfl⟩ | ⟨rfl, rfl⟩
    ·
      refine vx_catch (name := "java/lang/IndexOutOfBoundsException") hown [] ⟨0, 19, 22, 13⟩ [] htab (fun z hz => absurd hz List.not_mem_nil) (by decide +kernel) (by decide) (hts (.classLink RL 13 "java/lang/IndexOutOfBoundsException") (by decide +kernel)) (hW.cast (by decide)) hce hcv hcl ?_
      show W _ _ _ _ _ _ _ _ _ _ _ _ _ _ _ (F0 _ 22 ls [.ref q9])
      refine lv_astore (lv' := [(5, .ref (q9)), (0, .ref (xa 0 0)), (1, .int (t)), (2, .int (x)), (3, .int (nI (bn))), (4, .ref (xa 30 0))]) hx hb dL_settle_22 hl (by decide) rfl (fun ls hl => ?_)
      have hl : lv_has ls 6 [(0, .ref (xa 0 0)), (1, .int (t)), (2, .int (x)), (3, .int (nI (bn))), (4, .ref (xa 30 0)), (5, .ref (q9))] := lv_sub hl [1, 2, 3, 4, 5, 0] rfl
      refine lv_iconst (v := nI (1)) hx hb dL_settle_24 (by decide +kernel) ?_
      exact xe_i hx hb hr rfl hlocks hW ⟨1, fo, hgk, rfl, xa, τ, fun _ _ _ => rfl, by rw [show t_settle σ t x bn 1 = σ from if_neg (by decide), xup_same hO], by rw [show t_settle σ t x bn 1 = σ from if_neg (by decide)]; exact hL, by rw [show t_settle σ t x bn 1 = σ from if_neg (by decide)]; exact hT, fun h => absurd h (by decide)⟩ (Nat.le_of_ble_eq_true rfl) (Nat.le_of_ble_eq_true rfl) dL_settle_25
    ·
      exact (gk.no2 hgk).elim
    ·
      exact (gk.no3 hgk).elim
  · intro r xa1 G2 H locs hp hW
    obtain ⟨hgk, xa2, τ1, hag, hu, hL1, hT1, hans⟩ := hp
    have hu2 : G2 = _ := congrArg Prod.snd hu
    subst hu2
    have hu1 : xa2 = xa1 := (congrArg Prod.fst hu).symm
    subst hu1
    refine W_stk (st' := [.int r, .int (nI 0), .ref (xa2 30 0)]) (by rw [hag 30 0 (by omega)]) ?_
    have hW : xW D sa A s xa2 (xGs G1 D xa2 (t_settle σ t x bn 0) τ1) H locs := hW
    refine lv_if_eq (tgt := 17) hx hb dL_settle_10 (by decide) (fun c_10 => ?_) (fun c_10 => ?_)
    · -- eq taken
      have c_10 := hans.f c_10
      refine lv_lconst (v := 0) hx hb dL_settle_17 (by decide +kernel) ?_
      refine x_lst hx hb hW 30 0 (n := 1) (f := fo) ((if_neg (by omega)).trans hO) 0 rfl (by omega) (by omega) dL_settle_18 fun H locs hW => ?_
      have hW := hW.eqG (xup_G G1 D xa2 (t_settle σ t x bn 0) τ1 (k := 30) (i := 0) (by omega) (.inl (D.2 6, 1, .inr (.inl (vp_updL fo 0 (0)))))).symm
      refine lv_goto (tgt := 26) hx hb dL_settle_19 (by decide) ?_
      refine lv_iconst (v := nI (0)) hx hb dL_settle_26 (by decide +kernel) ?_
      exact xe_i hx hb hr rfl hlocks hW ⟨0, vp_updL fo 0 (0), hgk, rfl, xa2, τ1, hag, rfl, hL1, hT1, fun _ => Or.inr ⟨c_10, if_pos rfl⟩⟩ (Nat.le_of_ble_eq_true rfl) (Nat.le_of_ble_eq_true rfl) dL_settle_27
    · -- eq not
      have c_10 := hans.t c_10
      refine lv_lconst (v := 1) hx hb dL_settle_13 (by decide +kernel) ?_
      refine lv_goto (tgt := 18) hx hb dL_settle_14 (by decide) ?_
      refine x_lst hx hb hW 30 0 (n := 1) (f := fo) ((if_neg (by omega)).trans hO) 0 rfl (by omega) (by omega) dL_settle_18 fun H locs hW => ?_
      have hW := hW.eqG (xup_G G1 D xa2 (t_settle σ t x bn 0) τ1 (k := 30) (i := 0) (by omega) (.inl (D.2 6, 1, .inr (.inl (vp_updL fo 0 (1)))))).symm
      refine lv_goto (tgt := 26) hx hb dL_settle_19 (by decide) ?_
      refine lv_iconst (v := nI (0)) hx hb dL_settle_26 (by decide +kernel) ?_
      exact xe_i hx hb hr rfl hlocks hW ⟨0, vp_updL fo 0 (1), hgk, rfl, xa2, τ1, hag, rfl, hL1, hT1, fun _ => Or.inl ⟨c_10, if_pos rfl⟩⟩ (Nat.le_of_ble_eq_true rfl) (Nat.le_of_ble_eq_true rfl) dL_settle_27

set_option maxHeartbeats 4000000 in
set_option maxRecDepth 100000 in
theorem c_L_isPersecuted (l : Launch) (hst0 : l.stackTraces = false) (D : xD) (sa : Nat → Nat) (xa : xA) (G1 : xG) (σ : Sg) (τ : Tg) (hg : Gd σ) (hL : LL σ τ) (hT : TE σ τ) (fo : Nat → Int64) (hO : G1 30 0 = some (.inl (D.2 6, 1, .inr (.inl fo)))) (x : Int32) (a : Int32) (y : Int32) : xCi l yL_isPersecuted wsL_isPersecuted ({ frames := 18, cells := 3, slots := 18, locals := 600 } : Room) D sa xa (xGs G1 D xa σ τ) [.ref (xa 0 0), .int (x), .int (a), .int (y), .ref (xa 30 0)] (fun r u => ∃ (k_ : Nat) (f1 : Nat → Int64), gk (pP σ x ∧ pL a) (rg y 1900 2100) (True) k_ ∧ r = nI k_ ∧ xPo D xa (xup G1 30 0 (.inl (D.2 6, 1, .inr (.inl f1)))) (σ) (k_ = 0 → tvl (f1 0) (sPers σ (σ 1 (xn x)) (xn a) (xn y))) u) 3 18 := by
  intro sz
  refine va_MetW (cc := cL_isPersecuted) (maxL := 6) (ret := (some .int)) (hh := [(0, 19, 22, 13), (0, 19, 26, 25)]) (by decide +kernel) rfl ?_
  intro p e s m args below meth c s₁ B hml hv
  obtain ⟨rfl, hsz, hv2⟩ := hv
  subst hsz
  have hx := B.exec
  have hb := B.bytes
  have hr := B.returns
  have hts := atoms_spec (ws := wsL_isPersecuted) B.pre
  have hown : s.vm.findClass RL = some m.cls := findClass_of_methodNamed B.named
  have hlocks := B.notSynchronized
  have hW := xW.start (s := s) ⟨rfl, hv2⟩
  clear hv2
  generalize xAw xa (xGs G1 D xa σ τ) s.heap.size = A at hW ⊢
  have hl := lv_entry ([.ref (xa 0 0), .int (x), .int (a), .int (y), .ref (xa 30 0)]) (n := 6) (Nat.le_of_ble_eq_true rfl)
  rw [lg_entry_eq]
  generalize (lg_sl ([.ref (xa 0 0), .int (x), .int (a), .int (y), .ref (xa 30 0)]) ++ List.replicate (6 - (lg_sl ([.ref (xa 0 0), .int (x), .int (a), .int (y), .ref (xa 30 0)])).length) Slot.unset).toArray = ls at hl ⊢
  have hl : lv_has ls 6 [(0, .ref (xa 0 0)), (1, .int (x)), (2, .int (a)), (3, .int (y)), (4, .ref (xa 30 0))] := hl
  have htab : c.exceptionTable.toList = [⟨0, 19, 22, 13⟩, ⟨0, 19, 26, 25⟩] := (vx_table (x := yL_isPersecuted) B (hts _ List.mem_cons_self)).trans rfl
  refine lv_aload hx hb dL_isPersecuted_0 (lv_at hl 4 rfl) ?_
  refine lv_iconst (v := nI (0)) hx hb dL_isPersecuted_2 (by decide +kernel) ?_
  refine lv_aload_n hx hb dL_isPersecuted_3 rfl (lv_at hl 0 rfl) ?_
  refine lv_iload_n hx hb dL_isPersecuted_4 rfl (lv_at hl 1 rfl) ?_
  refine lv_iload_n hx hb dL_isPersecuted_5 rfl (lv_at hl 2 rfl) ?_
  refine lv_iload_n hx hb dL_isPersecuted_6 rfl (lv_at hl 3 rfl) ?_
  refine yh_i (k := 0) (i := 0) (As := [.int (x), .int (a), .int (y)]) (rest := [.int (nI (0)), .ref (xa 30 0)]) ⟨hx, hb, hml, hown, hts⟩ (c_X4_isPersecuted l hst0 D sa xa G1 σ τ hg hL x a y) (cwV 3 hts gL_isPersecuted_X4_isPersecuted rfl rfl rfl (by decide +kernel) ⟨Nat.le_of_ble_eq_true rfl, Nat.le_of_ble_eq_true rfl⟩) hW (xg_x G1 D xa σ τ) rfl rfl rfl rfl hl.1 (Nat.le_of_ble_eq_true rfl) dL_isPersecuted_7 ⟨Nat.le_of_ble_eq_true rfl, Nat.le_of_ble_eq_true rfl⟩ ?_ ?_
  · rintro E ce q9 H locs ⟨k, hgk, hE⟩ hW hce hcv hcl
    rcases hE with ⟨rfl, rfl⟩ | ⟨rfl, rfl⟩ | ⟨rfl, rfl⟩
    ·
      refine vx_catch (name := "java/lang/IndexOutOfBoundsException") hown [] ⟨0, 19, 22, 13⟩ [⟨0, 19, 26, 25⟩] htab (fun z hz => absurd hz List.not_mem_nil) (by decide +kernel) (by decide) (hts (.classLink RL 13 "java/lang/IndexOutOfBoundsException") (by decide +kernel)) (hW.cast (by decide)) hce hcv hcl ?_
      show W _ _ _ _ _ _ _ _ _ _ _ _ _ _ _ (F0 _ 22 ls [.ref q9])
      refine lv_astore (lv' := [(5, .ref (q9)), (0, .ref (xa 0 0)), (1, .int (x)), (2, .int (a)), (3, .int (y)), (4, .ref (xa 30 0))]) hx hb dL_isPersecuted_22 hl (by decide) rfl (fun ls hl => ?_)
      have hl : lv_has ls 6 [(0, .ref (xa 0 0)), (1, .int (x)), (2, .int (a)), (3, .int (y)), (4, .ref (xa 30 0)), (5, .ref (q9))] := lv_sub hl [1, 2, 3, 4, 5, 0] rfl
      refine lv_iconst (v := nI (1)) hx hb dL_isPersecuted_24 (by decide +kernel) ?_
      exact xe_i hx hb hr rfl hlocks hW ⟨1, fo, hgk, rfl, xa, τ, fun _ _ _ => rfl, by rw [xup_same hO], hL, hT, fun h => absurd h (by decide)⟩ (Nat.le_of_ble_eq_true rfl) (Nat.le_of_ble_eq_true rfl) dL_isPersecuted_25
    ·
      refine vx_catch (name := "java/lang/IllegalArgumentException") hown [⟨0, 19, 22, 13⟩] ⟨0, 19, 26, 25⟩ [] htab (by
          intro z hz
          simp only [List.mem_cons, List.not_mem_nil, or_false] at hz
          rcases hz with rfl
          · exact Or.inr ⟨by decide, "java/lang/IndexOutOfBoundsException", hts (.classLink RL 13 "java/lang/IndexOutOfBoundsException") (by decide +kernel), hW.Nc (by decide) (by decide) (by decide)⟩) (by decide +kernel) (by decide) (hts (.classLink RL 25 "java/lang/IllegalArgumentException") (by decide +kernel)) (hW.cast (by decide)) hce hcv hcl ?_
      show W _ _ _ _ _ _ _ _ _ _ _ _ _ _ _ (F0 _ 26 ls [.ref q9])
      refine lv_astore (lv' := [(5, .ref (q9)), (0, .ref (xa 0 0)), (1, .int (x)), (2, .int (a)), (3, .int (y)), (4, .ref (xa 30 0))]) hx hb dL_isPersecuted_26 hl (by decide) rfl (fun ls hl => ?_)
      have hl : lv_has ls 6 [(0, .ref (xa 0 0)), (1, .int (x)), (2, .int (a)), (3, .int (y)), (4, .ref (xa 30 0)), (5, .ref (q9))] := lv_sub hl [1, 2, 3, 4, 5, 0] rfl
      refine lv_iconst (v := nI (2)) hx hb dL_isPersecuted_28 (by decide +kernel) ?_
      exact xe_i hx hb hr rfl hlocks hW ⟨2, fo, hgk, rfl, xa, τ, fun _ _ _ => rfl, by rw [xup_same hO], hL, hT, fun h => absurd h (by decide)⟩ (Nat.le_of_ble_eq_true rfl) (Nat.le_of_ble_eq_true rfl) dL_isPersecuted_29
    ·
      exact (gk.no3 hgk).elim
  · intro r xa1 G2 H locs hp hW
    obtain ⟨hgk, hu, hans⟩ := hp
    cases hu
    have hW : xW D sa A s xa (xGs G1 D xa σ τ) H locs := hW
    refine lv_if_eq (tgt := 17) hx hb dL_isPersecuted_10 (by decide) (fun c_10 => ?_) (fun c_10 => ?_)
    · -- eq taken
      have c_10 := hans.f c_10
      refine lv_lconst (v := 0) hx hb dL_isPersecuted_17 (by decide +kernel) ?_
      refine x_lst hx hb hW 30 0 (n := 1) (f := fo) ((if_neg (by omega)).trans hO) 0 rfl (by omega) (by omega) dL_isPersecuted_18 fun H locs hW => ?_
      have hW := hW.eqG (xup_G G1 D xa σ τ (k := 30) (i := 0) (by omega) (.inl (D.2 6, 1, .inr (.inl (vp_updL fo 0 (0)))))).symm
      refine lv_goto (tgt := 30) hx hb dL_isPersecuted_19 (by decide) ?_
      refine lv_iconst (v := nI (0)) hx hb dL_isPersecuted_30 (by decide +kernel) ?_
      exact xe_i hx hb hr rfl hlocks hW ⟨0, vp_updL fo 0 (0), hgk, rfl, xa, τ, fun _ _ _ => rfl, rfl, hL, hT, fun _ => Or.inr ⟨c_10, if_pos rfl⟩⟩ (Nat.le_of_ble_eq_true rfl) (Nat.le_of_ble_eq_true rfl) dL_isPersecuted_31
    · -- eq not
      have c_10 := hans.t c_10
      refine lv_lconst (v := 1) hx hb dL_isPersecuted_13 (by decide +kernel) ?_
      refine lv_goto (tgt := 18) hx hb dL_isPersecuted_14 (by decide) ?_
      refine x_lst hx hb hW 30 0 (n := 1) (f := fo) ((if_neg (by omega)).trans hO) 0 rfl (by omega) (by omega) dL_isPersecuted_18 fun H locs hW => ?_
      have hW := hW.eqG (xup_G G1 D xa σ τ (k := 30) (i := 0) (by omega) (.inl (D.2 6, 1, .inr (.inl (vp_updL fo 0 (1)))))).symm
      refine lv_goto (tgt := 30) hx hb dL_isPersecuted_19 (by decide) ?_
      refine lv_iconst (v := nI (0)) hx hb dL_isPersecuted_30 (by decide +kernel) ?_
      exact xe_i hx hb hr rfl hlocks hW ⟨0, vp_updL fo 0 (1), hgk, rfl, xa, τ, fun _ _ _ => rfl, rfl, hL, hT, fun _ => Or.inl ⟨c_10, if_pos rfl⟩⟩ (Nat.le_of_ble_eq_true rfl) (Nat.le_of_ble_eq_true rfl) dL_isPersecuted_31

set_option maxHeartbeats 4000000 in
set_option maxRecDepth 100000 in
theorem c_L_heirOf (l : Launch) (hst0 : l.stackTraces = false) (D : xD) (sa : Nat → Nat) (xa : xA) (G1 : xG) (σ : Sg) (τ : Tg) (hg : Gd σ) (hL : LL σ τ) (hT : TE σ τ) (fo : Nat → Int64) (hO : G1 30 0 = some (.inl (D.2 6, 1, .inr (.inl fo)))) (x : Int32) : xCi l yL_heirOf wsL_heirOf ({ frames := 28, cells := 1, slots := 6, locals := 1100 } : Room) D sa xa (xGs G1 D xa σ τ) [.ref (xa 0 0), .int (x), .ref (xa 30 0)] (fun r u => ∃ (k_ : Nat) (f1 : Nat → Int64), gk (pP σ x) (True) (True) k_ ∧ r = nI k_ ∧ xPo D xa (xup G1 30 0 (.inl (D.2 6, 1, .inr (.inl f1)))) (σ) (k_ = 0 → ∃ a_ : Int32, f1 0 = a_.toInt64 ∧ (a_ = oi (fh σ 3 (xn x)))) u) 1 6 := by
  intro sz
  refine va_MetW (cc := cL_heirOf) (maxL := 4) (ret := (some .int)) (hh := [(0, 9, 12, 13)]) (by decide +kernel) rfl ?_
  intro p e s m args below meth c s₁ B hml hv
  obtain ⟨rfl, hsz, hv2⟩ := hv
  subst hsz
  have hx := B.exec
  have hb := B.bytes
  have hr := B.returns
  have hts := atoms_spec (ws := wsL_heirOf) B.pre
  have hown : s.vm.findClass RL = some m.cls := findClass_of_methodNamed B.named
  have hlocks := B.notSynchronized
  have hW := xW.start (s := s) ⟨rfl, hv2⟩
  clear hv2
  generalize xAw xa (xGs G1 D xa σ τ) s.heap.size = A at hW ⊢
  have hl := lv_entry ([.ref (xa 0 0), .int (x), .ref (xa 30 0)]) (n := 4) (Nat.le_of_ble_eq_true rfl)
  rw [lg_entry_eq]
  generalize (lg_sl ([.ref (xa 0 0), .int (x), .ref (xa 30 0)]) ++ List.replicate (4 - (lg_sl ([.ref (xa 0 0), .int (x), .ref (xa 30 0)])).length) Slot.unset).toArray = ls at hl ⊢
  have hl : lv_has ls 4 [(0, .ref (xa 0 0)), (1, .int (x)), (2, .ref (xa 30 0))] := hl
  have htab : c.exceptionTable.toList = [⟨0, 9, 12, 13⟩] := (vx_table (x := yL_heirOf) B (hts _ List.mem_cons_self)).trans rfl
  refine lv_aload_n hx hb dL_heirOf_0 rfl (lv_at hl 2 rfl) ?_
  refine lv_iconst (v := nI (0)) hx hb dL_heirOf_1 (by decide +kernel) ?_
  refine lv_aload_n hx hb dL_heirOf_2 rfl (lv_at hl 0 rfl) ?_
  refine lv_iload_n hx hb dL_heirOf_3 rfl (lv_at hl 1 rfl) ?_
  refine yh_i (k := 0) (i := 0) (As := [.int (x)]) (rest := [.int (nI (0)), .ref (xa 30 0)]) ⟨hx, hb, hml, hown, hts⟩ (c_X4_heirOf l hst0 D sa xa G1 σ τ hg hL x) (cwV 1 hts gL_heirOf_X4_heirOf rfl rfl rfl (by decide +kernel) ⟨Nat.le_of_ble_eq_true rfl, Nat.le_of_ble_eq_true rfl⟩) hW (xg_x G1 D xa σ τ) rfl rfl rfl rfl hl.1 (Nat.le_of_ble_eq_true rfl) dL_heirOf_4 ⟨Nat.le_of_ble_eq_true rfl, Nat.le_of_ble_eq_true rfl⟩ ?_ ?_
  · rintro E ce q9 H locs ⟨k, hgk, hE⟩ hW hce hcv hcl
    rcases hE with ⟨rfl, rfl⟩ | ⟨rfl, rfl⟩ | ⟨rfl, rfl⟩
    ·
      refine vx_catch (name := "java/lang/IndexOutOfBoundsException") hown [] ⟨0, 9, 12, 13⟩ [] htab (fun z hz => absurd hz List.not_mem_nil) (by decide +kernel) (by decide) (hts (.classLink RL 13 "java/lang/IndexOutOfBoundsException") (by decide +kernel)) (hW.cast (by decide)) hce hcv hcl ?_
      show W _ _ _ _ _ _ _ _ _ _ _ _ _ _ _ (F0 _ 12 ls [.ref q9])
      refine lv_astore_n (lv' := [(3, .ref (q9)), (0, .ref (xa 0 0)), (1, .int (x)), (2, .ref (xa 30 0))]) hx hb dL_heirOf_12 rfl hl (by decide) rfl (fun ls hl => ?_)
      have hl : lv_has ls 4 [(0, .ref (xa 0 0)), (1, .int (x)), (2, .ref (xa 30 0)), (3, .ref (q9))] := lv_sub hl [1, 2, 3, 0] rfl
      refine lv_iconst (v := nI (1)) hx hb dL_heirOf_13 (by decide +kernel) ?_
      exact xe_i hx hb hr rfl hlocks hW ⟨1, fo, hgk, rfl, xa, τ, fun _ _ _ => rfl, by rw [xup_same hO], hL, hT, fun h => absurd h (by decide)⟩ (Nat.le_of_ble_eq_true rfl) (Nat.le_of_ble_eq_true rfl) dL_heirOf_14
    ·
      exact (gk.no2 hgk).elim
    ·
      exact (gk.no3 hgk).elim
  · intro r xa1 G2 H locs hp hW
    obtain ⟨hgk, hu, hans⟩ := hp
    cases hu
    have hW : xW D sa A s xa (xGs G1 D xa σ τ) H locs := hW
    refine lv_i2l (v := Int32.toInt64 (r)) hx hb dL_heirOf_7 rfl ?_
    refine x_lst hx hb hW 30 0 (n := 1) (f := fo) ((if_neg (by omega)).trans hO) 0 rfl (by omega) (by omega) dL_heirOf_8 fun H locs hW => ?_
    have hW := hW.eqG (xup_G G1 D xa σ τ (k := 30) (i := 0) (by omega) (.inl (D.2 6, 1, .inr (.inl (vp_updL fo 0 (Int32.toInt64 (r))))))).symm
    refine lv_goto (tgt := 15) hx hb dL_heirOf_9 (by decide) ?_
    refine lv_iconst (v := nI (0)) hx hb dL_heirOf_15 (by decide +kernel) ?_
    exact xe_i hx hb hr rfl hlocks hW ⟨0, vp_updL fo 0 (Int32.toInt64 (r)), hgk, rfl, xa, τ, fun _ _ _ => rfl, rfl, hL, hT, fun _ => ⟨r, if_pos rfl, hans⟩⟩ (Nat.le_of_ble_eq_true rfl) (Nat.le_of_ble_eq_true rfl) dL_heirOf_16

set_option maxHeartbeats 4000000 in
set_option maxRecDepth 100000 in
theorem c_L_likeness (l : Launch) (hst0 : l.stackTraces = false) (D : xD) (sa : Nat → Nat) (xa : xA) (G1 : xG) (σ : Sg) (τ : Tg) (hg : Gd σ) (hL : LL σ τ) (hT : TE σ τ) (fo : Nat → Int64) (hO : G1 30 0 = some (.inl (D.2 6, 1, .inr (.inl fo)))) (t : Int32) (q : Int32) : xCi l yL_likeness wsL_likeness ({ frames := 18, cells := 2, slots := 12, locals := 600 } : Room) D sa xa (xGs G1 D xa σ τ) [.ref (xa 0 0), .int (t), .int (q), .ref (xa 30 0)] (fun r u => ∃ (k_ : Nat) (f1 : Nat → Int64), gk (pT σ t ∧ pT σ q) (True) (True) k_ ∧ r = nI k_ ∧ xPo D xa (xup G1 30 0 (.inl (D.2 6, 1, .inr (.inl f1)))) (σ) (k_ = 0 → ∃ a_ : Int32, f1 0 = a_.toInt64 ∧ (a_.toInt = lk σ (xn t) (xn q))) u) 2 12 := by
  intro sz
  refine va_MetW (cc := cL_likeness) (maxL := 5) (ret := (some .int)) (hh := [(0, 10, 13, 13)]) (by decide +kernel) rfl ?_
  intro p e s m args below meth c s₁ B hml hv
  obtain ⟨rfl, hsz, hv2⟩ := hv
  subst hsz
  have hx := B.exec
  have hb := B.bytes
  have hr := B.returns
  have hts := atoms_spec (ws := wsL_likeness) B.pre
  have hown : s.vm.findClass RL = some m.cls := findClass_of_methodNamed B.named
  have hlocks := B.notSynchronized
  have hW := xW.start (s := s) ⟨rfl, hv2⟩
  clear hv2
  generalize xAw xa (xGs G1 D xa σ τ) s.heap.size = A at hW ⊢
  have hl := lv_entry ([.ref (xa 0 0), .int (t), .int (q), .ref (xa 30 0)]) (n := 5) (Nat.le_of_ble_eq_true rfl)
  rw [lg_entry_eq]
  generalize (lg_sl ([.ref (xa 0 0), .int (t), .int (q), .ref (xa 30 0)]) ++ List.replicate (5 - (lg_sl ([.ref (xa 0 0), .int (t), .int (q), .ref (xa 30 0)])).length) Slot.unset).toArray = ls at hl ⊢
  have hl : lv_has ls 5 [(0, .ref (xa 0 0)), (1, .int (t)), (2, .int (q)), (3, .ref (xa 30 0))] := hl
  have htab : c.exceptionTable.toList = [⟨0, 10, 13, 13⟩] := (vx_table (x := yL_likeness) B (hts _ List.mem_cons_self)).trans rfl
  refine lv_aload_n hx hb dL_likeness_0 rfl (lv_at hl 3 rfl) ?_
  refine lv_iconst (v := nI (0)) hx hb dL_likeness_1 (by decide +kernel) ?_
  refine lv_aload_n hx hb dL_likeness_2 rfl (lv_at hl 0 rfl) ?_
  refine lv_iload_n hx hb dL_likeness_3 rfl (lv_at hl 1 rfl) ?_
  refine lv_iload_n hx hb dL_likeness_4 rfl (lv_at hl 2 rfl) ?_
  refine yh_i (k := 0) (i := 0) (As := [.int (t), .int (q)]) (rest := [.int (nI (0)), .ref (xa 30 0)]) ⟨hx, hb, hml, hown, hts⟩ (c_X4_likeness l hst0 D sa xa G1 σ τ hg hL t q) (cwV 2 hts gL_likeness_X4_likeness rfl rfl rfl (by decide +kernel) ⟨Nat.le_of_ble_eq_true rfl, Nat.le_of_ble_eq_true rfl⟩) hW (xg_x G1 D xa σ τ) rfl rfl rfl rfl hl.1 (Nat.le_of_ble_eq_true rfl) dL_likeness_5 ⟨Nat.le_of_ble_eq_true rfl, Nat.le_of_ble_eq_true rfl⟩ ?_ ?_
  · rintro E ce q9 H locs ⟨k, hgk, hE⟩ hW hce hcv hcl
    rcases hE with ⟨rfl, rfl⟩ | ⟨rfl, rfl⟩ | ⟨rfl, rfl⟩
    ·
      refine vx_catch (name := "java/lang/IndexOutOfBoundsException") hown [] ⟨0, 10, 13, 13⟩ [] htab (fun z hz => absurd hz List.not_mem_nil) (by decide +kernel) (by decide) (hts (.classLink RL 13 "java/lang/IndexOutOfBoundsException") (by decide +kernel)) (hW.cast (by decide)) hce hcv hcl ?_
      show W _ _ _ _ _ _ _ _ _ _ _ _ _ _ _ (F0 _ 13 ls [.ref q9])
      refine lv_astore (lv' := [(4, .ref (q9)), (0, .ref (xa 0 0)), (1, .int (t)), (2, .int (q)), (3, .ref (xa 30 0))]) hx hb dL_likeness_13 hl (by decide) rfl (fun ls hl => ?_)
      have hl : lv_has ls 5 [(0, .ref (xa 0 0)), (1, .int (t)), (2, .int (q)), (3, .ref (xa 30 0)), (4, .ref (q9))] := lv_sub hl [1, 2, 3, 4, 0] rfl
      refine lv_iconst (v := nI (1)) hx hb dL_likeness_15 (by decide +kernel) ?_
      exact xe_i hx hb hr rfl hlocks hW ⟨1, fo, hgk, rfl, xa, τ, fun _ _ _ => rfl, by rw [xup_same hO], hL, hT, fun h => absurd h (by decide)⟩ (Nat.le_of_ble_eq_true rfl) (Nat.le_of_ble_eq_true rfl) dL_likeness_16
    ·
      exact (gk.no2 hgk).elim
    ·
      exact (gk.no3 hgk).elim
  · intro r xa1 G2 H locs hp hW
    obtain ⟨hgk, hu, hans⟩ := hp
    cases hu
    have hW : xW D sa A s xa (xGs G1 D xa σ τ) H locs := hW
    refine lv_i2l (v := Int32.toInt64 (r)) hx hb dL_likeness_8 rfl ?_
    refine x_lst hx hb hW 30 0 (n := 1) (f := fo) ((if_neg (by omega)).trans hO) 0 rfl (by omega) (by omega) dL_likeness_9 fun H locs hW => ?_
    have hW := hW.eqG (xup_G G1 D xa σ τ (k := 30) (i := 0) (by omega) (.inl (D.2 6, 1, .inr (.inl (vp_updL fo 0 (Int32.toInt64 (r))))))).symm
    refine lv_goto (tgt := 17) hx hb dL_likeness_10 (by decide) ?_
    refine lv_iconst (v := nI (0)) hx hb dL_likeness_17 (by decide +kernel) ?_
    exact xe_i hx hb hr rfl hlocks hW ⟨0, vp_updL fo 0 (Int32.toInt64 (r)), hgk, rfl, xa, τ, fun _ _ _ => rfl, rfl, hL, hT, fun _ => ⟨r, if_pos rfl, hans⟩⟩ (Nat.le_of_ble_eq_true rfl) (Nat.le_of_ble_eq_true rfl) dL_likeness_18

set_option maxHeartbeats 4000000 in
set_option maxRecDepth 100000 in
theorem c_L_likest (l : Launch) (hst0 : l.stackTraces = false) (D : xD) (sa : Nat → Nat) (xa : xA) (G1 : xG) (σ : Sg) (τ : Tg) (hg : Gd σ) (hL : LL σ τ) (hT : TE σ τ) (fo : Nat → Int64) (hO : G1 30 0 = some (.inl (D.2 6, 1, .inr (.inl fo)))) (t : Int32) : xCi l yL_likest wsL_likest ({ frames := 18, cells := 1, slots := 6, locals := 600 } : Room) D sa xa (xGs G1 D xa σ τ) [.ref (xa 0 0), .int (t), .ref (xa 30 0)] (fun r u => ∃ (k_ : Nat) (f1 : Nat → Int64), gk (pT σ t) (True) (True) k_ ∧ r = nI k_ ∧ xPo D xa (xup G1 30 0 (.inl (D.2 6, 1, .inr (.inl f1)))) (σ) (k_ = 0 → ∃ a_ : Int32, f1 0 = a_.toInt64 ∧ (a_ = oi (lst σ (xn t) (σ 12 0)))) u) 1 6 := by
  intro sz
  refine va_MetW (cc := cL_likest) (maxL := 4) (ret := (some .int)) (hh := [(0, 9, 12, 13)]) (by decide +kernel) rfl ?_
  intro p e s m args below meth c s₁ B hml hv
  obtain ⟨rfl, hsz, hv2⟩ := hv
  subst hsz
  have hx := B.exec
  have hb := B.bytes
  have hr := B.returns
  have hts := atoms_spec (ws := wsL_likest) B.pre
  have hown : s.vm.findClass RL = some m.cls := findClass_of_methodNamed B.named
  have hlocks := B.notSynchronized
  have hW := xW.start (s := s) ⟨rfl, hv2⟩
  clear hv2
  generalize xAw xa (xGs G1 D xa σ τ) s.heap.size = A at hW ⊢
  have hl := lv_entry ([.ref (xa 0 0), .int (t), .ref (xa 30 0)]) (n := 4) (Nat.le_of_ble_eq_true rfl)
  rw [lg_entry_eq]
  generalize (lg_sl ([.ref (xa 0 0), .int (t), .ref (xa 30 0)]) ++ List.replicate (4 - (lg_sl ([.ref (xa 0 0), .int (t), .ref (xa 30 0)])).length) Slot.unset).toArray = ls at hl ⊢
  have hl : lv_has ls 4 [(0, .ref (xa 0 0)), (1, .int (t)), (2, .ref (xa 30 0))] := hl
  have htab : c.exceptionTable.toList = [⟨0, 9, 12, 13⟩] := (vx_table (x := yL_likest) B (hts _ List.mem_cons_self)).trans rfl
  refine lv_aload_n hx hb dL_likest_0 rfl (lv_at hl 2 rfl) ?_
  refine lv_iconst (v := nI (0)) hx hb dL_likest_1 (by decide +kernel) ?_
  refine lv_aload_n hx hb dL_likest_2 rfl (lv_at hl 0 rfl) ?_
  refine lv_iload_n hx hb dL_likest_3 rfl (lv_at hl 1 rfl) ?_
  refine yh_i (k := 0) (i := 0) (As := [.int (t)]) (rest := [.int (nI (0)), .ref (xa 30 0)]) ⟨hx, hb, hml, hown, hts⟩ (c_X4_likest l hst0 D sa xa G1 σ τ hg hL t) (cwV 1 hts gL_likest_X4_likest rfl rfl rfl (by decide +kernel) ⟨Nat.le_of_ble_eq_true rfl, Nat.le_of_ble_eq_true rfl⟩) hW (xg_x G1 D xa σ τ) rfl rfl rfl rfl hl.1 (Nat.le_of_ble_eq_true rfl) dL_likest_4 ⟨Nat.le_of_ble_eq_true rfl, Nat.le_of_ble_eq_true rfl⟩ ?_ ?_
  · rintro E ce q9 H locs ⟨k, hgk, hE⟩ hW hce hcv hcl
    rcases hE with ⟨rfl, rfl⟩ | ⟨rfl, rfl⟩ | ⟨rfl, rfl⟩
    ·
      refine vx_catch (name := "java/lang/IndexOutOfBoundsException") hown [] ⟨0, 9, 12, 13⟩ [] htab (fun z hz => absurd hz List.not_mem_nil) (by decide +kernel) (by decide) (hts (.classLink RL 13 "java/lang/IndexOutOfBoundsException") (by decide +kernel)) (hW.cast (by decide)) hce hcv hcl ?_
      show W _ _ _ _ _ _ _ _ _ _ _ _ _ _ _ (F0 _ 12 ls [.ref q9])
      refine lv_astore_n (lv' := [(3, .ref (q9)), (0, .ref (xa 0 0)), (1, .int (t)), (2, .ref (xa 30 0))]) hx hb dL_likest_12 rfl hl (by decide) rfl (fun ls hl => ?_)
      have hl : lv_has ls 4 [(0, .ref (xa 0 0)), (1, .int (t)), (2, .ref (xa 30 0)), (3, .ref (q9))] := lv_sub hl [1, 2, 3, 0] rfl
      refine lv_iconst (v := nI (1)) hx hb dL_likest_13 (by decide +kernel) ?_
      exact xe_i hx hb hr rfl hlocks hW ⟨1, fo, hgk, rfl, xa, τ, fun _ _ _ => rfl, by rw [xup_same hO], hL, hT, fun h => absurd h (by decide)⟩ (Nat.le_of_ble_eq_true rfl) (Nat.le_of_ble_eq_true rfl) dL_likest_14
    ·
      exact (gk.no2 hgk).elim
    ·
      exact (gk.no3 hgk).elim
  · intro r xa1 G2 H locs hp hW
    obtain ⟨hgk, hu, hans⟩ := hp
    cases hu
    have hW : xW D sa A s xa (xGs G1 D xa σ τ) H locs := hW
    refine lv_i2l (v := Int32.toInt64 (r)) hx hb dL_likest_7 rfl ?_
    refine x_lst hx hb hW 30 0 (n := 1) (f := fo) ((if_neg (by omega)).trans hO) 0 rfl (by omega) (by omega) dL_likest_8 fun H locs hW => ?_
    have hW := hW.eqG (xup_G G1 D xa σ τ (k := 30) (i := 0) (by omega) (.inl (D.2 6, 1, .inr (.inl (vp_updL fo 0 (Int32.toInt64 (r))))))).symm
    refine lv_goto (tgt := 15) hx hb dL_likest_9 (by decide) ?_
    refine lv_iconst (v := nI (0)) hx hb dL_likest_15 (by decide +kernel) ?_
    exact xe_i hx hb hr rfl hlocks hW ⟨0, vp_updL fo 0 (Int32.toInt64 (r)), hgk, rfl, xa, τ, fun _ _ _ => rfl, rfl, hL, hT, fun _ => ⟨r, if_pos rfl, hans⟩⟩ (Nat.le_of_ble_eq_true rfl) (Nat.le_of_ble_eq_true rfl) dL_likest_16

set_option maxHeartbeats 4000000 in
set_option maxRecDepth 100000 in
theorem c_L_stationAt (l : Launch) (hst0 : l.stackTraces = false) (D : xD) (sa : Nat → Nat) (xa : xA) (G1 : xG) (σ : Sg) (τ : Tg) (hg : Gd σ) (hL : LL σ τ) (hT : TE σ τ) (fo : Nat → Int64) (hO : G1 30 0 = some (.inl (D.2 6, 1, .inr (.inl fo)))) (t : Int32) (q : Int32) : xCi l yL_stationAt wsL_stationAt ({ frames := 18, cells := 2, slots := 12, locals := 600 } : Room) D sa xa (xGs G1 D xa σ τ) [.ref (xa 0 0), .int (t), .int (q), .ref (xa 30 0)] (fun r u => ∃ (k_ : Nat) (f1 : Nat → Int64), gk (pT σ t ∧ 0 ≤ q.toInt) (True) (True) k_ ∧ r = nI k_ ∧ xPo D xa (xup G1 30 0 (.inl (D.2 6, 1, .inr (.inl f1)))) (σ) (k_ = 0 → ∃ a_ : Int32, f1 0 = a_.toInt64 ∧ (a_ = oi (if xn q < σ 11 (xn t) then some (ordr σ (xn t) (xn q)) else none))) u) 2 12 := by
  intro sz
  refine va_MetW (cc := cL_stationAt) (maxL := 5) (ret := (some .int)) (hh := [(0, 10, 13, 13)]) (by decide +kernel) rfl ?_
  intro p e s m args below meth c s₁ B hml hv
  obtain ⟨rfl, hsz, hv2⟩ := hv
  subst hsz
  have hx := B.exec
  have hb := B.bytes
  have hr := B.returns
  have hts := atoms_spec (ws := wsL_stationAt) B.pre
  have hown : s.vm.findClass RL = some m.cls := findClass_of_methodNamed B.named
  have hlocks := B.notSynchronized
  have hW := xW.start (s := s) ⟨rfl, hv2⟩
  clear hv2
  generalize xAw xa (xGs G1 D xa σ τ) s.heap.size = A at hW ⊢
  have hl := lv_entry ([.ref (xa 0 0), .int (t), .int (q), .ref (xa 30 0)]) (n := 5) (Nat.le_of_ble_eq_true rfl)
  rw [lg_entry_eq]
  generalize (lg_sl ([.ref (xa 0 0), .int (t), .int (q), .ref (xa 30 0)]) ++ List.replicate (5 - (lg_sl ([.ref (xa 0 0), .int (t), .int (q), .ref (xa 30 0)])).length) Slot.unset).toArray = ls at hl ⊢
  have hl : lv_has ls 5 [(0, .ref (xa 0 0)), (1, .int (t)), (2, .int (q)), (3, .ref (xa 30 0))] := hl
  have htab : c.exceptionTable.toList = [⟨0, 10, 13, 13⟩] := (vx_table (x := yL_stationAt) B (hts _ List.mem_cons_self)).trans rfl
  refine lv_aload_n hx hb dL_stationAt_0 rfl (lv_at hl 3 rfl) ?_
  refine lv_iconst (v := nI (0)) hx hb dL_stationAt_1 (by decide +kernel) ?_
  refine lv_aload_n hx hb dL_stationAt_2 rfl (lv_at hl 0 rfl) ?_
  refine lv_iload_n hx hb dL_stationAt_3 rfl (lv_at hl 1 rfl) ?_
  refine lv_iload_n hx hb dL_stationAt_4 rfl (lv_at hl 2 rfl) ?_
  refine yh_i (k := 0) (i := 0) (As := [.int (t), .int (q)]) (rest := [.int (nI (0)), .ref (xa 30 0)]) ⟨hx, hb, hml, hown, hts⟩ (c_X4_stationAt l hst0 D sa xa G1 σ τ hg hL t q) (cwV 2 hts gL_stationAt_X4_stationAt rfl rfl rfl (by decide +kernel) ⟨Nat.le_of_ble_eq_true rfl, Nat.le_of_ble_eq_true rfl⟩) hW (xg_x G1 D xa σ τ) rfl rfl rfl rfl hl.1 (Nat.le_of_ble_eq_true rfl) dL_stationAt_5 ⟨Nat.le_of_ble_eq_true rfl, Nat.le_of_ble_eq_true rfl⟩ ?_ ?_
  · rintro E ce q9 H locs ⟨k, hgk, hE⟩ hW hce hcv hcl
    rcases hE with ⟨rfl, rfl⟩ | ⟨rfl, rfl⟩ | ⟨rfl, rfl⟩
    ·
      refine vx_catch (name := "java/lang/IndexOutOfBoundsException") hown [] ⟨0, 10, 13, 13⟩ [] htab (fun z hz => absurd hz List.not_mem_nil) (by decide +kernel) (by decide) (hts (.classLink RL 13 "java/lang/IndexOutOfBoundsException") (by decide +kernel)) (hW.cast (by decide)) hce hcv hcl ?_
      show W _ _ _ _ _ _ _ _ _ _ _ _ _ _ _ (F0 _ 13 ls [.ref q9])
      refine lv_astore (lv' := [(4, .ref (q9)), (0, .ref (xa 0 0)), (1, .int (t)), (2, .int (q)), (3, .ref (xa 30 0))]) hx hb dL_stationAt_13 hl (by decide) rfl (fun ls hl => ?_)
      have hl : lv_has ls 5 [(0, .ref (xa 0 0)), (1, .int (t)), (2, .int (q)), (3, .ref (xa 30 0)), (4, .ref (q9))] := lv_sub hl [1, 2, 3, 4, 0] rfl
      refine lv_iconst (v := nI (1)) hx hb dL_stationAt_15 (by decide +kernel) ?_
      exact xe_i hx hb hr rfl hlocks hW ⟨1, fo, hgk, rfl, xa, τ, fun _ _ _ => rfl, by rw [xup_same hO], hL, hT, fun h => absurd h (by decide)⟩ (Nat.le_of_ble_eq_true rfl) (Nat.le_of_ble_eq_true rfl) dL_stationAt_16
    ·
      exact (gk.no2 hgk).elim
    ·
      exact (gk.no3 hgk).elim
  · intro r xa1 G2 H locs hp hW
    obtain ⟨hgk, hu, hans⟩ := hp
    cases hu
    have hW : xW D sa A s xa (xGs G1 D xa σ τ) H locs := hW
    refine lv_i2l (v := Int32.toInt64 (r)) hx hb dL_stationAt_8 rfl ?_
    refine x_lst hx hb hW 30 0 (n := 1) (f := fo) ((if_neg (by omega)).trans hO) 0 rfl (by omega) (by omega) dL_stationAt_9 fun H locs hW => ?_
    have hW := hW.eqG (xup_G G1 D xa σ τ (k := 30) (i := 0) (by omega) (.inl (D.2 6, 1, .inr (.inl (vp_updL fo 0 (Int32.toInt64 (r))))))).symm
    refine lv_goto (tgt := 17) hx hb dL_stationAt_10 (by decide) ?_
    refine lv_iconst (v := nI (0)) hx hb dL_stationAt_17 (by decide +kernel) ?_
    exact xe_i hx hb hr rfl hlocks hW ⟨0, vp_updL fo 0 (Int32.toInt64 (r)), hgk, rfl, xa, τ, fun _ _ _ => rfl, rfl, hL, hT, fun _ => ⟨r, if_pos rfl, hans⟩⟩ (Nat.le_of_ble_eq_true rfl) (Nat.le_of_ble_eq_true rfl) dL_stationAt_18

set_option maxHeartbeats 4000000 in
set_option maxRecDepth 100000 in
theorem c_L_isLoss (l : Launch) (hst0 : l.stackTraces = false) (D : xD) (sa : Nat → Nat) (xa : xA) (G1 : xG) (σ : Sg) (τ : Tg) (hg : Gd σ) (hL : LL σ τ) (hT : TE σ τ) (fo : Nat → Int64) (hO : G1 30 0 = some (.inl (D.2 6, 1, .inr (.inl fo)))) (t : Int32) (x : Int32) : xCi l yL_isLoss wsL_isLoss ({ frames := 20, cells := 2, slots := 12, locals := 700 } : Room) D sa xa (xGs G1 D xa σ τ) [.ref (xa 0 0), .int (t), .int (x), .ref (xa 30 0)] (fun r u => ∃ (k_ : Nat) (f1 : Nat → Int64), gk (pS σ t x) (True) (True) k_ ∧ r = nI k_ ∧ xPo D xa (xup G1 30 0 (.inl (D.2 6, 1, .inr (.inl f1)))) (σ) (k_ = 0 → tvl (f1 0) (lossT σ (xn t) (xn x))) u) 2 12 := by
  intro sz
  refine va_MetW (cc := cL_isLoss) (maxL := 5) (ret := (some .int)) (hh := [(0, 17, 20, 13)]) (by decide +kernel) rfl ?_
  intro p e s m args below meth c s₁ B hml hv
  obtain ⟨rfl, hsz, hv2⟩ := hv
  subst hsz
  have hx := B.exec
  have hb := B.bytes
  have hr := B.returns
  have hts := atoms_spec (ws := wsL_isLoss) B.pre
  have hown : s.vm.findClass RL = some m.cls := findClass_of_methodNamed B.named
  have hlocks := B.notSynchronized
  have hW := xW.start (s := s) ⟨rfl, hv2⟩
  clear hv2
  generalize xAw xa (xGs G1 D xa σ τ) s.heap.size = A at hW ⊢
  have hl := lv_entry ([.ref (xa 0 0), .int (t), .int (x), .ref (xa 30 0)]) (n := 5) (Nat.le_of_ble_eq_true rfl)
  rw [lg_entry_eq]
  generalize (lg_sl ([.ref (xa 0 0), .int (t), .int (x), .ref (xa 30 0)]) ++ List.replicate (5 - (lg_sl ([.ref (xa 0 0), .int (t), .int (x), .ref (xa 30 0)])).length) Slot.unset).toArray = ls at hl ⊢
  have hl : lv_has ls 5 [(0, .ref (xa 0 0)), (1, .int (t)), (2, .int (x)), (3, .ref (xa 30 0))] := hl
  have htab : c.exceptionTable.toList = [⟨0, 17, 20, 13⟩] := (vx_table (x := yL_isLoss) B (hts _ List.mem_cons_self)).trans rfl
  refine lv_aload_n hx hb dL_isLoss_0 rfl (lv_at hl 3 rfl) ?_
  refine lv_iconst (v := nI (0)) hx hb dL_isLoss_1 (by decide +kernel) ?_
  refine lv_aload_n hx hb dL_isLoss_2 rfl (lv_at hl 0 rfl) ?_
  refine lv_iload_n hx hb dL_isLoss_3 rfl (lv_at hl 1 rfl) ?_
  refine lv_iload_n hx hb dL_isLoss_4 rfl (lv_at hl 2 rfl) ?_
  refine yh_i (k := 0) (i := 0) (As := [.int (t), .int (x)]) (rest := [.int (nI (0)), .ref (xa 30 0)]) ⟨hx, hb, hml, hown, hts⟩ (c_X4_isLoss l hst0 D sa xa G1 σ τ hg hL t x) (cwV 2 hts gL_isLoss_X4_isLoss rfl rfl rfl (by decide +kernel) ⟨Nat.le_of_ble_eq_true rfl, Nat.le_of_ble_eq_true rfl⟩) hW (xg_x G1 D xa σ τ) rfl rfl rfl rfl hl.1 (Nat.le_of_ble_eq_true rfl) dL_isLoss_5 ⟨Nat.le_of_ble_eq_true rfl, Nat.le_of_ble_eq_true rfl⟩ ?_ ?_
  · rintro E ce q9 H locs ⟨k, hgk, hE⟩ hW hce hcv hcl
    rcases hE with ⟨rfl, rfl⟩ | ⟨rfl, rfl⟩ | ⟨rfl, rfl⟩
    ·
      refine vx_catch (name := "java/lang/IndexOutOfBoundsException") hown [] ⟨0, 17, 20, 13⟩ [] htab (fun z hz => absurd hz List.not_mem_nil) (by decide +kernel) (by decide) (hts (.classLink RL 13 "java/lang/IndexOutOfBoundsException") (by decide +kernel)) (hW.cast (by decide)) hce hcv hcl ?_
      show W _ _ _ _ _ _ _ _ _ _ _ _ _ _ _ (F0 _ 20 ls [.ref q9])
      refine lv_astore (lv' := [(4, .ref (q9)), (0, .ref (xa 0 0)), (1, .int (t)), (2, .int (x)), (3, .ref (xa 30 0))]) hx hb dL_isLoss_20 hl (by decide) rfl (fun ls hl => ?_)
      have hl : lv_has ls 5 [(0, .ref (xa 0 0)), (1, .int (t)), (2, .int (x)), (3, .ref (xa 30 0)), (4, .ref (q9))] := lv_sub hl [1, 2, 3, 4, 0] rfl
      refine lv_iconst (v := nI (1)) hx hb dL_isLoss_22 (by decide +kernel) ?_
      exact xe_i hx hb hr rfl hlocks hW ⟨1, fo, hgk, rfl, xa, τ, fun _ _ _ => rfl, by rw [xup_same hO], hL, hT, fun h => absurd h (by decide)⟩ (Nat.le_of_ble_eq_true rfl) (Nat.le_of_ble_eq_true rfl) dL_isLoss_23
    ·
      exact (gk.no2 hgk).elim
    ·
      exact (gk.no3 hgk).elim
  · intro r xa1 G2 H locs hp hW
    obtain ⟨hgk, hu, hans⟩ := hp
    cases hu
    have hW : xW D sa A s xa (xGs G1 D xa σ τ) H locs := hW
    refine lv_if_eq (tgt := 15) hx hb dL_isLoss_8 (by decide) (fun c_8 => ?_) (fun c_8 => ?_)
    · -- eq taken
      have c_8 := hans.f c_8
      refine lv_lconst (v := 0) hx hb dL_isLoss_15 (by decide +kernel) ?_
      refine x_lst hx hb hW 30 0 (n := 1) (f := fo) ((if_neg (by omega)).trans hO) 0 rfl (by omega) (by omega) dL_isLoss_16 fun H locs hW => ?_
      have hW := hW.eqG (xup_G G1 D xa σ τ (k := 30) (i := 0) (by omega) (.inl (D.2 6, 1, .inr (.inl (vp_updL fo 0 (0)))))).symm
      refine lv_goto (tgt := 24) hx hb dL_isLoss_17 (by decide) ?_
      refine lv_iconst (v := nI (0)) hx hb dL_isLoss_24 (by decide +kernel) ?_
      exact xe_i hx hb hr rfl hlocks hW ⟨0, vp_updL fo 0 (0), hgk, rfl, xa, τ, fun _ _ _ => rfl, rfl, hL, hT, fun _ => Or.inr ⟨c_8, if_pos rfl⟩⟩ (Nat.le_of_ble_eq_true rfl) (Nat.le_of_ble_eq_true rfl) dL_isLoss_25
    · -- eq not
      have c_8 := hans.t c_8
      refine lv_lconst (v := 1) hx hb dL_isLoss_11 (by decide +kernel) ?_
      refine lv_goto (tgt := 16) hx hb dL_isLoss_12 (by decide) ?_
      refine x_lst hx hb hW 30 0 (n := 1) (f := fo) ((if_neg (by omega)).trans hO) 0 rfl (by omega) (by omega) dL_isLoss_16 fun H locs hW => ?_
      have hW := hW.eqG (xup_G G1 D xa σ τ (k := 30) (i := 0) (by omega) (.inl (D.2 6, 1, .inr (.inl (vp_updL fo 0 (1)))))).symm
      refine lv_goto (tgt := 24) hx hb dL_isLoss_17 (by decide) ?_
      refine lv_iconst (v := nI (0)) hx hb dL_isLoss_24 (by decide +kernel) ?_
      exact xe_i hx hb hr rfl hlocks hW ⟨0, vp_updL fo 0 (1), hgk, rfl, xa, τ, fun _ _ _ => rfl, rfl, hL, hT, fun _ => Or.inl ⟨c_8, if_pos rfl⟩⟩ (Nat.le_of_ble_eq_true rfl) (Nat.le_of_ble_eq_true rfl) dL_isLoss_25

set_option maxHeartbeats 4000000 in
set_option maxRecDepth 100000 in
theorem c_L_holder (l : Launch) (hst0 : l.stackTraces = false) (D : xD) (sa : Nat → Nat) (xa : xA) (G1 : xG) (σ : Sg) (τ : Tg) (hg : Gd σ) (hL : LL σ τ) (hT : TE σ τ) (fo : Nat → Int64) (hO : G1 30 0 = some (.inl (D.2 6, 1, .inr (.inl fo)))) (t : Int32) : xCi l yL_holder wsL_holder ({ frames := 18, cells := 1, slots := 6, locals := 600 } : Room) D sa xa (xGs G1 D xa σ τ) [.ref (xa 0 0), .int (t), .ref (xa 30 0)] (fun r u => ∃ (k_ : Nat) (f1 : Nat → Int64), gk (pT σ t) (True) (True) k_ ∧ r = nI k_ ∧ xPo D xa (xup G1 30 0 (.inl (D.2 6, 1, .inr (.inl f1)))) (σ) (k_ = 0 → ∃ a_ : Int32, f1 0 = a_.toInt64 ∧ (a_ = oi (hold σ (xn t)))) u) 1 6 := by
  intro sz
  refine va_MetW (cc := cL_holder) (maxL := 4) (ret := (some .int)) (hh := [(0, 9, 12, 13)]) (by decide +kernel) rfl ?_
  intro p e s m args below meth c s₁ B hml hv
  obtain ⟨rfl, hsz, hv2⟩ := hv
  subst hsz
  have hx := B.exec
  have hb := B.bytes
  have hr := B.returns
  have hts := atoms_spec (ws := wsL_holder) B.pre
  have hown : s.vm.findClass RL = some m.cls := findClass_of_methodNamed B.named
  have hlocks := B.notSynchronized
  have hW := xW.start (s := s) ⟨rfl, hv2⟩
  clear hv2
  generalize xAw xa (xGs G1 D xa σ τ) s.heap.size = A at hW ⊢
  have hl := lv_entry ([.ref (xa 0 0), .int (t), .ref (xa 30 0)]) (n := 4) (Nat.le_of_ble_eq_true rfl)
  rw [lg_entry_eq]
  generalize (lg_sl ([.ref (xa 0 0), .int (t), .ref (xa 30 0)]) ++ List.replicate (4 - (lg_sl ([.ref (xa 0 0), .int (t), .ref (xa 30 0)])).length) Slot.unset).toArray = ls at hl ⊢
  have hl : lv_has ls 4 [(0, .ref (xa 0 0)), (1, .int (t)), (2, .ref (xa 30 0))] := hl
  have htab : c.exceptionTable.toList = [⟨0, 9, 12, 13⟩] := (vx_table (x := yL_holder) B (hts _ List.mem_cons_self)).trans rfl
  refine lv_aload_n hx hb dL_holder_0 rfl (lv_at hl 2 rfl) ?_
  refine lv_iconst (v := nI (0)) hx hb dL_holder_1 (by decide +kernel) ?_
  refine lv_aload_n hx hb dL_holder_2 rfl (lv_at hl 0 rfl) ?_
  refine lv_iload_n hx hb dL_holder_3 rfl (lv_at hl 1 rfl) ?_
  refine yh_i (k := 0) (i := 0) (As := [.int (t)]) (rest := [.int (nI (0)), .ref (xa 30 0)]) ⟨hx, hb, hml, hown, hts⟩ (c_X4_holder l hst0 D sa xa G1 σ τ hg hL t) (cwV 1 hts gL_holder_X4_holder rfl rfl rfl (by decide +kernel) ⟨Nat.le_of_ble_eq_true rfl, Nat.le_of_ble_eq_true rfl⟩) hW (xg_x G1 D xa σ τ) rfl rfl rfl rfl hl.1 (Nat.le_of_ble_eq_true rfl) dL_holder_4 ⟨Nat.le_of_ble_eq_true rfl, Nat.le_of_ble_eq_true rfl⟩ ?_ ?_
  · rintro E ce q9 H locs ⟨k, hgk, hE⟩ hW hce hcv hcl
    rcases hE with ⟨rfl, rfl⟩ | ⟨rfl, rfl⟩ | ⟨rfl, rfl⟩
    ·
      refine vx_catch (name := "java/lang/IndexOutOfBoundsException") hown [] ⟨0, 9, 12, 13⟩ [] htab (fun z hz => absurd hz List.not_mem_nil) (by decide +kernel) (by decide) (hts (.classLink RL 13 "java/lang/IndexOutOfBoundsException") (by decide +kernel)) (hW.cast (by decide)) hce hcv hcl ?_
      show W _ _ _ _ _ _ _ _ _ _ _ _ _ _ _ (F0 _ 12 ls [.ref q9])
      refine lv_astore_n (lv' := [(3, .ref (q9)), (0, .ref (xa 0 0)), (1, .int (t)), (2, .ref (xa 30 0))]) hx hb dL_holder_12 rfl hl (by decide) rfl (fun ls hl => ?_)
      have hl : lv_has ls 4 [(0, .ref (xa 0 0)), (1, .int (t)), (2, .ref (xa 30 0)), (3, .ref (q9))] := lv_sub hl [1, 2, 3, 0] rfl
      refine lv_iconst (v := nI (1)) hx hb dL_holder_13 (by decide +kernel) ?_
      exact xe_i hx hb hr rfl hlocks hW ⟨1, fo, hgk, rfl, xa, τ, fun _ _ _ => rfl, by rw [xup_same hO], hL, hT, fun h => absurd h (by decide)⟩ (Nat.le_of_ble_eq_true rfl) (Nat.le_of_ble_eq_true rfl) dL_holder_14
    ·
      exact (gk.no2 hgk).elim
    ·
      exact (gk.no3 hgk).elim
  · intro r xa1 G2 H locs hp hW
    obtain ⟨hgk, hu, hans⟩ := hp
    cases hu
    have hW : xW D sa A s xa (xGs G1 D xa σ τ) H locs := hW
    refine lv_i2l (v := Int32.toInt64 (r)) hx hb dL_holder_7 rfl ?_
    refine x_lst hx hb hW 30 0 (n := 1) (f := fo) ((if_neg (by omega)).trans hO) 0 rfl (by omega) (by omega) dL_holder_8 fun H locs hW => ?_
    have hW := hW.eqG (xup_G G1 D xa σ τ (k := 30) (i := 0) (by omega) (.inl (D.2 6, 1, .inr (.inl (vp_updL fo 0 (Int32.toInt64 (r))))))).symm
    refine lv_goto (tgt := 15) hx hb dL_holder_9 (by decide) ?_
    refine lv_iconst (v := nI (0)) hx hb dL_holder_15 (by decide +kernel) ?_
    exact xe_i hx hb hr rfl hlocks hW ⟨0, vp_updL fo 0 (Int32.toInt64 (r)), hgk, rfl, xa, τ, fun _ _ _ => rfl, rfl, hL, hT, fun _ => ⟨r, if_pos rfl, hans⟩⟩ (Nat.le_of_ble_eq_true rfl) (Nat.le_of_ble_eq_true rfl) dL_holder_16

set_option maxHeartbeats 4000000 in
set_option maxRecDepth 100000 in
theorem c_L_owner (l : Launch) (hst0 : l.stackTraces = false) (D : xD) (sa : Nat → Nat) (xa : xA) (G1 : xG) (σ : Sg) (τ : Tg) (hg : Gd σ) (hL : LL σ τ) (hT : TE σ τ) (fo : Nat → Int64) (hO : G1 30 0 = some (.inl (D.2 6, 1, .inr (.inl fo)))) (t : Int32) : xCi l yL_owner wsL_owner ({ frames := 30, cells := 1, slots := 6, locals := 1200 } : Room) D sa xa (xGs G1 D xa σ τ) [.ref (xa 0 0), .int (t), .ref (xa 30 0)] (fun r u => ∃ (k_ : Nat) (f1 : Nat → Int64), gk (pT σ t) (True) (True) k_ ∧ r = nI k_ ∧ xPo D xa (xup G1 30 0 (.inl (D.2 6, 1, .inr (.inl f1)))) (σ) (k_ = 0 → ∃ a_ : Int32, f1 0 = a_.toInt64 ∧ (∃ o, a_ = oi o ∧ own σ (xn t) o)) u) 1 6 := by
  intro sz
  refine va_MetW (cc := cL_owner) (maxL := 4) (ret := (some .int)) (hh := [(0, 9, 12, 13)]) (by decide +kernel) rfl ?_
  intro p e s m args below meth c s₁ B hml hv
  obtain ⟨rfl, hsz, hv2⟩ := hv
  subst hsz
  have hx := B.exec
  have hb := B.bytes
  have hr := B.returns
  have hts := atoms_spec (ws := wsL_owner) B.pre
  have hown : s.vm.findClass RL = some m.cls := findClass_of_methodNamed B.named
  have hlocks := B.notSynchronized
  have hW := xW.start (s := s) ⟨rfl, hv2⟩
  clear hv2
  generalize xAw xa (xGs G1 D xa σ τ) s.heap.size = A at hW ⊢
  have hl := lv_entry ([.ref (xa 0 0), .int (t), .ref (xa 30 0)]) (n := 4) (Nat.le_of_ble_eq_true rfl)
  rw [lg_entry_eq]
  generalize (lg_sl ([.ref (xa 0 0), .int (t), .ref (xa 30 0)]) ++ List.replicate (4 - (lg_sl ([.ref (xa 0 0), .int (t), .ref (xa 30 0)])).length) Slot.unset).toArray = ls at hl ⊢
  have hl : lv_has ls 4 [(0, .ref (xa 0 0)), (1, .int (t)), (2, .ref (xa 30 0))] := hl
  have htab : c.exceptionTable.toList = [⟨0, 9, 12, 13⟩] := (vx_table (x := yL_owner) B (hts _ List.mem_cons_self)).trans rfl
  refine lv_aload_n hx hb dL_owner_0 rfl (lv_at hl 2 rfl) ?_
  refine lv_iconst (v := nI (0)) hx hb dL_owner_1 (by decide +kernel) ?_
  refine lv_aload_n hx hb dL_owner_2 rfl (lv_at hl 0 rfl) ?_
  refine lv_iload_n hx hb dL_owner_3 rfl (lv_at hl 1 rfl) ?_
  refine yh_i (k := 0) (i := 0) (As := [.int (t)]) (rest := [.int (nI (0)), .ref (xa 30 0)]) ⟨hx, hb, hml, hown, hts⟩ (c_X4_owner l hst0 D sa xa G1 σ τ hg hL t) (cwV 1 hts gL_owner_X4_owner rfl rfl rfl (by decide +kernel) ⟨Nat.le_of_ble_eq_true rfl, Nat.le_of_ble_eq_true rfl⟩) hW (xg_x G1 D xa σ τ) rfl rfl rfl rfl hl.1 (Nat.le_of_ble_eq_true rfl) dL_owner_4 ⟨Nat.le_of_ble_eq_true rfl, Nat.le_of_ble_eq_true rfl⟩ ?_ ?_
  · rintro E ce q9 H locs ⟨k, hgk, hE⟩ hW hce hcv hcl
    rcases hE with ⟨rfl, rfl⟩ | ⟨rfl, rfl⟩ | ⟨rfl, rfl⟩
    ·
      refine vx_catch (name := "java/lang/IndexOutOfBoundsException") hown [] ⟨0, 9, 12, 13⟩ [] htab (fun z hz => absurd hz List.not_mem_nil) (by decide +kernel) (by decide) (hts (.classLink RL 13 "java/lang/IndexOutOfBoundsException") (by decide +kernel)) (hW.cast (by decide)) hce hcv hcl ?_
      show W _ _ _ _ _ _ _ _ _ _ _ _ _ _ _ (F0 _ 12 ls [.ref q9])
      refine lv_astore_n (lv' := [(3, .ref (q9)), (0, .ref (xa 0 0)), (1, .int (t)), (2, .ref (xa 30 0))]) hx hb dL_owner_12 rfl hl (by decide) rfl (fun ls hl => ?_)
      have hl : lv_has ls 4 [(0, .ref (xa 0 0)), (1, .int (t)), (2, .ref (xa 30 0)), (3, .ref (q9))] := lv_sub hl [1, 2, 3, 0] rfl
      refine lv_iconst (v := nI (1)) hx hb dL_owner_13 (by decide +kernel) ?_
      exact xe_i hx hb hr rfl hlocks hW ⟨1, fo, hgk, rfl, xa, τ, fun _ _ _ => rfl, by rw [xup_same hO], hL, hT, fun h => absurd h (by decide)⟩ (Nat.le_of_ble_eq_true rfl) (Nat.le_of_ble_eq_true rfl) dL_owner_14
    ·
      exact (gk.no2 hgk).elim
    ·
      exact (gk.no3 hgk).elim
  · intro r xa1 G2 H locs hp hW
    obtain ⟨hgk, hu, hans⟩ := hp
    cases hu
    have hW : xW D sa A s xa (xGs G1 D xa σ τ) H locs := hW
    refine lv_i2l (v := Int32.toInt64 (r)) hx hb dL_owner_7 rfl ?_
    refine x_lst hx hb hW 30 0 (n := 1) (f := fo) ((if_neg (by omega)).trans hO) 0 rfl (by omega) (by omega) dL_owner_8 fun H locs hW => ?_
    have hW := hW.eqG (xup_G G1 D xa σ τ (k := 30) (i := 0) (by omega) (.inl (D.2 6, 1, .inr (.inl (vp_updL fo 0 (Int32.toInt64 (r))))))).symm
    refine lv_goto (tgt := 15) hx hb dL_owner_9 (by decide) ?_
    refine lv_iconst (v := nI (0)) hx hb dL_owner_15 (by decide +kernel) ?_
    exact xe_i hx hb hr rfl hlocks hW ⟨0, vp_updL fo 0 (Int32.toInt64 (r)), hgk, rfl, xa, τ, fun _ _ _ => rfl, rfl, hL, hT, fun _ => ⟨r, if_pos rfl, hans⟩⟩ (Nat.le_of_ble_eq_true rfl) (Nat.le_of_ble_eq_true rfl) dL_owner_16

set_option maxHeartbeats 4000000 in
set_option maxRecDepth 100000 in
theorem c_L_ownerAnew (l : Launch) (hst0 : l.stackTraces = false) (D : xD) (sa : Nat → Nat) (xa : xA) (G1 : xG) (σ : Sg) (τ : Tg) (hg : Gd σ) (hL : LL σ τ) (hT : TE σ τ) (fo : Nat → Int64) (hO : G1 30 0 = some (.inl (D.2 6, 1, .inr (.inl fo)))) (t : Int32) : xCi l yL_ownerAnew wsL_ownerAnew ({ frames := 30, cells := 1, slots := 6, locals := 1200 } : Room) D sa xa (xGs G1 D xa σ τ) [.ref (xa 0 0), .int (t), .ref (xa 30 0)] (fun r u => ∃ (k_ : Nat) (f1 : Nat → Int64), gk (pT σ t) (True) (True) k_ ∧ r = nI k_ ∧ xPo D xa (xup G1 30 0 (.inl (D.2 6, 1, .inr (.inl f1)))) (σ) (k_ = 0 → ∃ a_ : Int32, f1 0 = a_.toInt64 ∧ (∃ o, a_ = oi o ∧ own σ (xn t) o)) u) 1 6 := by
  intro sz
  refine va_MetW (cc := cL_ownerAnew) (maxL := 4) (ret := (some .int)) (hh := [(0, 9, 12, 13)]) (by decide +kernel) rfl ?_
  intro p e s m args below meth c s₁ B hml hv
  obtain ⟨rfl, hsz, hv2⟩ := hv
  subst hsz
  have hx := B.exec
  have hb := B.bytes
  have hr := B.returns
  have hts := atoms_spec (ws := wsL_ownerAnew) B.pre
  have hown : s.vm.findClass RL = some m.cls := findClass_of_methodNamed B.named
  have hlocks := B.notSynchronized
  have hW := xW.start (s := s) ⟨rfl, hv2⟩
  clear hv2
  generalize xAw xa (xGs G1 D xa σ τ) s.heap.size = A at hW ⊢
  have hl := lv_entry ([.ref (xa 0 0), .int (t), .ref (xa 30 0)]) (n := 4) (Nat.le_of_ble_eq_true rfl)
  rw [lg_entry_eq]
  generalize (lg_sl ([.ref (xa 0 0), .int (t), .ref (xa 30 0)]) ++ List.replicate (4 - (lg_sl ([.ref (xa 0 0), .int (t), .ref (xa 30 0)])).length) Slot.unset).toArray = ls at hl ⊢
  have hl : lv_has ls 4 [(0, .ref (xa 0 0)), (1, .int (t)), (2, .ref (xa 30 0))] := hl
  have htab : c.exceptionTable.toList = [⟨0, 9, 12, 13⟩] := (vx_table (x := yL_ownerAnew) B (hts _ List.mem_cons_self)).trans rfl
  refine lv_aload_n hx hb dL_ownerAnew_0 rfl (lv_at hl 2 rfl) ?_
  refine lv_iconst (v := nI (0)) hx hb dL_ownerAnew_1 (by decide +kernel) ?_
  refine lv_aload_n hx hb dL_ownerAnew_2 rfl (lv_at hl 0 rfl) ?_
  refine lv_iload_n hx hb dL_ownerAnew_3 rfl (lv_at hl 1 rfl) ?_
  refine yh_i (k := 0) (i := 0) (As := [.int (t)]) (rest := [.int (nI (0)), .ref (xa 30 0)]) ⟨hx, hb, hml, hown, hts⟩ (c_X4_ownerAnew l hst0 D sa xa G1 σ τ hg hL hT t) (cwV 1 hts gL_ownerAnew_X4_ownerAnew rfl rfl rfl (by decide +kernel) ⟨Nat.le_of_ble_eq_true rfl, Nat.le_of_ble_eq_true rfl⟩) hW (xg_x G1 D xa σ τ) rfl rfl rfl rfl hl.1 (Nat.le_of_ble_eq_true rfl) dL_ownerAnew_4 ⟨Nat.le_of_ble_eq_true rfl, Nat.le_of_ble_eq_true rfl⟩ ?_ ?_
  · rintro E ce q9 H locs ⟨k, hgk, hE⟩ hW hce hcv hcl
    rcases hE with ⟨rfl, rfl⟩ | ⟨rfl, rfl⟩ | ⟨rfl, rfl⟩
    ·
      refine vx_catch (name := "java/lang/IndexOutOfBoundsException") hown [] ⟨0, 9, 12, 13⟩ [] htab (fun z hz => absurd hz List.not_mem_nil) (by decide +kernel) (by decide) (hts (.classLink RL 13 "java/lang/IndexOutOfBoundsException") (by decide +kernel)) (hW.cast (by decide)) hce hcv hcl ?_
      show W _ _ _ _ _ _ _ _ _ _ _ _ _ _ _ (F0 _ 12 ls [.ref q9])
      refine lv_astore_n (lv' := [(3, .ref (q9)), (0, .ref (xa 0 0)), (1, .int (t)), (2, .ref (xa 30 0))]) hx hb dL_ownerAnew_12 rfl hl (by decide) rfl (fun ls hl => ?_)
      have hl : lv_has ls 4 [(0, .ref (xa 0 0)), (1, .int (t)), (2, .ref (xa 30 0)), (3, .ref (q9))] := lv_sub hl [1, 2, 3, 0] rfl
      refine lv_iconst (v := nI (1)) hx hb dL_ownerAnew_13 (by decide +kernel) ?_
      exact xe_i hx hb hr rfl hlocks hW ⟨1, fo, hgk, rfl, xa, τ, fun _ _ _ => rfl, by rw [xup_same hO], hL, hT, fun h => absurd h (by decide)⟩ (Nat.le_of_ble_eq_true rfl) (Nat.le_of_ble_eq_true rfl) dL_ownerAnew_14
    ·
      exact (gk.no2 hgk).elim
    ·
      exact (gk.no3 hgk).elim
  · intro r xa1 G2 H locs hp hW
    obtain ⟨hgk, xa2, τ1, hag, hu, hL1, hT1, hans⟩ := hp
    have hu2 : G2 = _ := congrArg Prod.snd hu
    subst hu2
    have hu1 : xa2 = xa1 := (congrArg Prod.fst hu).symm
    subst hu1
    refine W_stk (st' := [.int r, .int (nI 0), .ref (xa2 30 0)]) (by rw [hag 30 0 (by omega)]) ?_
    have hW : xW D sa A s xa2 (xGs G1 D xa2 σ τ1) H locs := hW
    refine lv_i2l (v := Int32.toInt64 (r)) hx hb dL_ownerAnew_7 rfl ?_
    refine x_lst hx hb hW 30 0 (n := 1) (f := fo) ((if_neg (by omega)).trans hO) 0 rfl (by omega) (by omega) dL_ownerAnew_8 fun H locs hW => ?_
    have hW := hW.eqG (xup_G G1 D xa2 σ τ1 (k := 30) (i := 0) (by omega) (.inl (D.2 6, 1, .inr (.inl (vp_updL fo 0 (Int32.toInt64 (r))))))).symm
    refine lv_goto (tgt := 15) hx hb dL_ownerAnew_9 (by decide) ?_
    refine lv_iconst (v := nI (0)) hx hb dL_ownerAnew_15 (by decide +kernel) ?_
    exact xe_i hx hb hr rfl hlocks hW ⟨0, vp_updL fo 0 (Int32.toInt64 (r)), hgk, rfl, xa2, τ1, hag, rfl, hL1, hT1, fun _ => ⟨r, if_pos rfl, hans⟩⟩ (Nat.le_of_ble_eq_true rfl) (Nat.le_of_ble_eq_true rfl) dL_ownerAnew_16

set_option maxHeartbeats 4000000 in
set_option maxRecDepth 100000 in
theorem c_L_asks (l : Launch) (hst0 : l.stackTraces = false) (D : xD) (sa : Nat → Nat) (xa : xA) (G1 : xG) (σ : Sg) (τ : Tg) (hg : Gd σ) (hL : LL σ τ) (hT : TE σ τ) (fo : Nat → Int64) (hO : G1 30 0 = some (.inl (D.2 6, 1, .inr (.inl fo)))) (x : Int32) : xCi l yL_asks wsL_asks ({ frames := 30, cells := 1, slots := 6, locals := 1200 } : Room) D sa xa (xGs G1 D xa σ τ) [.ref (xa 0 0), .int (x), .ref (xa 30 0)] (fun r u => ∃ (k_ : Nat) (f1 : Nat → Int64), gk (pP σ x) (True) (True) k_ ∧ r = nI k_ ∧ xPo D xa (xup G1 30 0 (.inl (D.2 6, 1, .inr (.inl f1)))) (σ) (k_ = 0 → ∃ a_ : Int32, f1 0 = a_.toInt64 ∧ (∃ n, a_ = nI n ∧ cnt σ (xn x) (σ 12 0) n)) u) 1 6 := by
  intro sz
  refine va_MetW (cc := cL_asks) (maxL := 4) (ret := (some .int)) (hh := [(0, 9, 12, 13)]) (by decide +kernel) rfl ?_
  intro p e s m args below meth c s₁ B hml hv
  obtain ⟨rfl, hsz, hv2⟩ := hv
  subst hsz
  have hx := B.exec
  have hb := B.bytes
  have hr := B.returns
  have hts := atoms_spec (ws := wsL_asks) B.pre
  have hown : s.vm.findClass RL = some m.cls := findClass_of_methodNamed B.named
  have hlocks := B.notSynchronized
  have hW := xW.start (s := s) ⟨rfl, hv2⟩
  clear hv2
  generalize xAw xa (xGs G1 D xa σ τ) s.heap.size = A at hW ⊢
  have hl := lv_entry ([.ref (xa 0 0), .int (x), .ref (xa 30 0)]) (n := 4) (Nat.le_of_ble_eq_true rfl)
  rw [lg_entry_eq]
  generalize (lg_sl ([.ref (xa 0 0), .int (x), .ref (xa 30 0)]) ++ List.replicate (4 - (lg_sl ([.ref (xa 0 0), .int (x), .ref (xa 30 0)])).length) Slot.unset).toArray = ls at hl ⊢
  have hl : lv_has ls 4 [(0, .ref (xa 0 0)), (1, .int (x)), (2, .ref (xa 30 0))] := hl
  have htab : c.exceptionTable.toList = [⟨0, 9, 12, 13⟩] := (vx_table (x := yL_asks) B (hts _ List.mem_cons_self)).trans rfl
  refine lv_aload_n hx hb dL_asks_0 rfl (lv_at hl 2 rfl) ?_
  refine lv_iconst (v := nI (0)) hx hb dL_asks_1 (by decide +kernel) ?_
  refine lv_aload_n hx hb dL_asks_2 rfl (lv_at hl 0 rfl) ?_
  refine lv_iload_n hx hb dL_asks_3 rfl (lv_at hl 1 rfl) ?_
  refine yh_i (k := 0) (i := 0) (As := [.int (x)]) (rest := [.int (nI (0)), .ref (xa 30 0)]) ⟨hx, hb, hml, hown, hts⟩ (c_X4_asks l hst0 D sa xa G1 σ τ hg hL x) (cwV 1 hts gL_asks_X4_asks rfl rfl rfl (by decide +kernel) ⟨Nat.le_of_ble_eq_true rfl, Nat.le_of_ble_eq_true rfl⟩) hW (xg_x G1 D xa σ τ) rfl rfl rfl rfl hl.1 (Nat.le_of_ble_eq_true rfl) dL_asks_4 ⟨Nat.le_of_ble_eq_true rfl, Nat.le_of_ble_eq_true rfl⟩ ?_ ?_
  · rintro E ce q9 H locs ⟨k, hgk, hE⟩ hW hce hcv hcl
    rcases hE with ⟨rfl, rfl⟩ | ⟨rfl, rfl⟩ | ⟨rfl, rfl⟩
    ·
      refine vx_catch (name := "java/lang/IndexOutOfBoundsException") hown [] ⟨0, 9, 12, 13⟩ [] htab (fun z hz => absurd hz List.not_mem_nil) (by decide +kernel) (by decide) (hts (.classLink RL 13 "java/lang/IndexOutOfBoundsException") (by decide +kernel)) (hW.cast (by decide)) hce hcv hcl ?_
      show W _ _ _ _ _ _ _ _ _ _ _ _ _ _ _ (F0 _ 12 ls [.ref q9])
      refine lv_astore_n (lv' := [(3, .ref (q9)), (0, .ref (xa 0 0)), (1, .int (x)), (2, .ref (xa 30 0))]) hx hb dL_asks_12 rfl hl (by decide) rfl (fun ls hl => ?_)
      have hl : lv_has ls 4 [(0, .ref (xa 0 0)), (1, .int (x)), (2, .ref (xa 30 0)), (3, .ref (q9))] := lv_sub hl [1, 2, 3, 0] rfl
      refine lv_iconst (v := nI (1)) hx hb dL_asks_13 (by decide +kernel) ?_
      exact xe_i hx hb hr rfl hlocks hW ⟨1, fo, hgk, rfl, xa, τ, fun _ _ _ => rfl, by rw [xup_same hO], hL, hT, fun h => absurd h (by decide)⟩ (Nat.le_of_ble_eq_true rfl) (Nat.le_of_ble_eq_true rfl) dL_asks_14
    ·
      exact (gk.no2 hgk).elim
    ·
      exact (gk.no3 hgk).elim
  · intro r xa1 G2 H locs hp hW
    obtain ⟨hgk, hu, hans⟩ := hp
    cases hu
    have hW : xW D sa A s xa (xGs G1 D xa σ τ) H locs := hW
    refine lv_i2l (v := Int32.toInt64 (r)) hx hb dL_asks_7 rfl ?_
    refine x_lst hx hb hW 30 0 (n := 1) (f := fo) ((if_neg (by omega)).trans hO) 0 rfl (by omega) (by omega) dL_asks_8 fun H locs hW => ?_
    have hW := hW.eqG (xup_G G1 D xa σ τ (k := 30) (i := 0) (by omega) (.inl (D.2 6, 1, .inr (.inl (vp_updL fo 0 (Int32.toInt64 (r))))))).symm
    refine lv_goto (tgt := 15) hx hb dL_asks_9 (by decide) ?_
    refine lv_iconst (v := nI (0)) hx hb dL_asks_15 (by decide +kernel) ?_
    exact xe_i hx hb hr rfl hlocks hW ⟨0, vp_updL fo 0 (Int32.toInt64 (r)), hgk, rfl, xa, τ, fun _ _ _ => rfl, rfl, hL, hT, fun _ => ⟨r, if_pos rfl, hans⟩⟩ (Nat.le_of_ble_eq_true rfl) (Nat.le_of_ble_eq_true rfl) dL_asks_16
