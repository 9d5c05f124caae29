def R_law : String := "RestitutoryLaw"
def lw_P (b : Addr) (xs : List Int32) (args : Array Value) (s : State) : Prop := args = #[.ref b] ∧ s.IntsAt b xs ∧ xs.length ≤ 260 ∧ (Jvm.Cond.and given_1 narrow_1).before args s = true
def lw_Q (_ : Array Value) (s : State) (o : Outcome) (t : State) : Prop := o = .returned (some (.int 1)) ∧ Framed s o t [] 697503 7009189
def lw_Z (below : List Frame) (a : Array Value) (s : State) : State → Prop := fun t => ∃ o, t.status = .running ∧ Ended t below o ∧ lw_Q a s o t
/-- the law's own end, with 1 on the stack, nothing written that was there before, its room as the claim has it -/
theorem lw_ret {p : Program} {l : Launch} {e : Env} {s : State} {m : MethodId} {below : List Frame} {meth : Method} {c : Code} {b : Nat} (hx : p.tables.exec = Jvm.exec) (hb : c.code = code) (hr : meth.sig.returnType = ret) (hlocks : meth.locks = false) {pc : Nat} {H : Heap} {ls : Array Slot} (hdg : decode code pc = .ok (.ireturn, 1)) : W p l e room_1 s m #[Value.ref b] below meth c H [] 697503 7009189 (lw_Z below #[Value.ref b] s) (F0 m pc ls [.int 1]) := by
  intro T hT X
  obtain ⟨fs, hret, hrun, hended, hW, hframe⟩ := X.leave (v := some (.int 1)) (hlocks := hlocks) (fun h => by rw [hr] at h; cases h)
  have hmeth' : T.vm.method? m = some meth := X.method'
  refine ⟨T.setFrames fs, ?_, .returned (some (.int 1)), hrun, hended, rfl, ⟨_, rfl⟩, hW, hframe⟩
  jvm_step X.here [X.here.top, hx, hb, hdg, hmeth', hr, ret, narrow_b1]
  (try refine ⟨rfl, ?_⟩); (try refine ⟨rfl, ?_⟩)
  first | (intro acts; rw [hret _ acts rfl rfl rfl]) | rw [hret _ _ rfl rfl rfl]
  exact Steps.refl _
/-- what holds at the law's entry: the machine, the code, the tables' words (any of lw_tbl by 'hts w (by decide +kernel)'), the script of L ints xs at the cell b, what the Statement gives of the start (any of its parts by flat_of_before) -/
def lw_At (p : Program) (s : State) (m : MethodId) (meth : Method) (c : Code) (b L : Nat) (xs : Nat → Int32) : Prop :=
  p.tables.exec = Jvm.exec ∧ c.code = code ∧ meth.sig.returnType = ret ∧ c.maxLocals = 1 ∧ s.vm.findClass R_law = some m.cls ∧ (∀ w ∈ lw_tbl, w.before #[Value.ref b] s = true) ∧ va_X b L xs s s.heap ∧ b < s.heap.size ∧ meth.locks = false ∧ (Jvm.Cond.and given_1 narrow_1).before #[Value.ref b] s = true
/-! THE LAW'S RUN, caught and handed on -/
set_option maxHeartbeats 4000000 in
set_option maxRecDepth 100000 in
theorem c_L_isHeld (l : Launch) (hst0 : l.stackTraces = false) (D : xD) (sa : Nat → Nat) (xa : xA) (b L : Nat) (xs : Nat → Int32) (hLL : L ≤ 260) : zCi l yL_isHeld wsL_isHeld ({ frames := 38, cells := 2000, slots := 12000, locals := 1600 } : Room) D sa xa (fun _ _ => none) b L xs [.ref b] (fun r _ => r = 1) 2000 12000 := by
  intro sz
  refine va_MetW (cc := cL_isHeld) (maxL := 2) (ret := (some .boolean)) (hh := [(0, 4, 5, 144), (0, 4, 8, 146), (0, 4, 11, 148)]) (by decide +kernel) rfl ?_
  intro p e s m args below meth c s₁ B hml hv
  obtain ⟨rfl, ⟨hsz, hv2⟩, hX, hbl, hGb⟩ := hv
  subst hsz
  have hx := B.exec
  have hb := B.bytes
  have hr := B.returns
  have hts := atoms_spec (ws := wsL_isHeld) B.pre
  have hown : s.vm.findClass RL = some m.cls := findClass_of_methodNamed B.named
  have hlocks := B.notSynchronized
  have hW := xW.start (s := s) ⟨rfl, hv2⟩
  clear hv2
  have hbA := xAw_b hbl hGb
  generalize xAw xa (fun _ _ => none) s.heap.size = A at hW hbA ⊢
  have hl := lv_entry ([.ref b]) (n := 2) (Nat.le_of_ble_eq_true rfl)
  rw [lg_entry_eq]
  generalize (lg_sl ([.ref b]) ++ List.replicate (2 - (lg_sl ([.ref b])).length) Slot.unset).toArray = ls at hl ⊢
  have hl : lv_has ls 2 [(0, .ref b)] := hl
  refine lv_aload_n hx hb dL_isHeld_0 rfl (lv_at hl 0 rfl) ?_
  refine xs_z (As := [.ref b]) (rest := []) ⟨hx, hb, hml, hown, hts⟩ (c_L_holds l hst0 D sa xa b L xs hLL) (va_cwS 1 hts gL_isHeld_L_holds rfl rfl rfl (by decide +kernel) ⟨Nat.le_of_ble_eq_true rfl, Nat.le_of_ble_eq_true rfl⟩) hX hbl hbA hW rfl rfl hl.1 (Nat.le_of_ble_eq_true rfl) dL_isHeld_1 ⟨Nat.le_of_ble_eq_true rfl, Nat.le_of_ble_eq_true rfl⟩ (fun r xa1 G1 H locs hp hW => ?_)
  subst hp
  exact xe_i hx hb hr rfl hlocks hW rfl (Nat.le_of_ble_eq_true rfl) (Nat.le_of_ble_eq_true rfl) dL_isHeld_4
set_option maxHeartbeats 4000000 in
set_option maxRecDepth 100000 in
/-- from the entry, for every script, the law comes to its end with true -/
theorem whole_start {p : Program} {e : Env} {s : State} {m : MethodId} {below : List Frame} {meth : Method} {c : Code} (l : Launch) (hflags : l.flags = flags0) {b L : Nat} {xs : Nat → Int32} (hL : L ≤ 260) (C0 : lw_At p s m meth c b L xs) : W p l e room_1 s m #[Value.ref b] below meth c s.heap [] 0 0 (lw_Z below #[Value.ref b] s) (entryFrame m ([Value.ref b] : List Value).toArray 1) := by
  obtain ⟨hx, hb, hr, hml, hown, hts0, hX, hbl, hlocks, hgv⟩ := C0
  have hst0 : l.stackTraces = false := by unfold Launch.stackTraces; rw [hflags]; decide +kernel
  have hts : ∀ w ∈ wsL_law, w.before #[Value.ref b] s = true := fun w h => hts0 w (wsL_law_in w h)
  obtain ⟨D, hK⟩ := la_K hts0
  obtain ⟨sa, hsa⟩ := la_sa hts0 (hK.1 4 _ rfl).2.1
  have hgs := flat_of_before _ hgv
  obtain ⟨A, hA⟩ : ∃ A : Nat → Prop, A = fun q => s.heap.size ≤ q := ⟨_, rfl⟩
  have hnA : ∀ a : Nat, a < s.heap.size → ¬ A a := fun a h1 h2 => by rw [hA] at h2; exact absurd h2 (by omega)
  have hNc : ∀ E ∈ xExc, ∀ F ∈ xExc, E ≠ F → va_Nc E F s := by
    intro E hE F hF hn
    simp only [xExc, List.mem_cons, List.not_mem_nil, or_false] at hE hF
    rcases hE with rfl | rfl | rfl <;> rcases hF with rfl | rfl | rfl <;> first | exact absurd rfl hn | exact va_Nc.of (hgs _ (by decide +kernel))
  have hEv : xEv sa A s s.heap := ⟨vx_Zqof (hts0 (.laysStatic Bundle.tN "UNASSIGNED_STACK" Bundle.steD) (by decide +kernel)) (hts0 (.initialized Bundle.tN) (by decide +kernel)) (hgs (.isRef (.static Bundle.tN "UNASSIGNED_STACK" Bundle.steD)) (by decide +kernel)) hnA,
    vx_Zqof (hts0 (.laysStatic Bundle.tN "SUPPRESSED_SENTINEL" Bundle.listD) (by decide +kernel)) (hts0 (.initialized Bundle.tN) (by decide +kernel)) (hgs (.isRef (.static Bundle.tN "SUPPRESSED_SENTINEL" Bundle.listD)) (by decide +kernel)) hnA,
    hsa, fun E hE => va_Nw.of rfl (hts0 _ (la_cast E hE)), fun y hy => va_Nw.of rfl (hts0 _ (la_dec y hy)), hNc, fun C hC => va_AO.of (hts0 _ (la_arr C hC))⟩
  have hW : xW D sa A s (fun _ _ => 0) (fun _ _ => none) s.heap [] := ⟨⟨fun k i e h => (by cases h), fun k i k' i' h => absurd rfl h⟩, fun k i h => absurd rfl h, fun q hq => (by rw [hA]; exact hq), va_S.rf, hK, hEv⟩
  have hAA : ∀ q, A q → s.heap.size ≤ q := fun q h => by rw [hA] at h; exact h
  have hbA : ¬ A b := hnA b hbl
  have hl := lv_entry ([.ref b]) (n := 1) (Nat.le_of_ble_eq_true rfl)
  rw [lg_entry_eq]
  generalize (lg_sl ([.ref b]) ++ List.replicate (1 - (lg_sl ([.ref b])).length) Slot.unset).toArray = ls at hl ⊢
  have hl : lv_has ls 1 [(0, .ref b)] := hl
  refine lv_aload_n hx hb dL_law_0 rfl (lv_at hl 0 rfl) ?_
  refine xsw_z (As := [.ref b]) (rest := []) ⟨hx, hb, hml, hown, hts⟩ (c_L_isHeld l hst0 D sa (fun _ _ => 0) b L xs hL) (vx_cwSW (hh := [(0, 4, 5, 144), (0, 4, 8, 146), (0, 4, 11, 148)]) 1 hts gL_law_L_isHeld rfl rfl rfl (by decide +kernel) ⟨Nat.le_of_ble_eq_true rfl, Nat.le_of_ble_eq_true rfl⟩) hX hbl hbA hW rfl rfl hl.1 (Nat.le_of_ble_eq_true rfl) dL_law_1 ⟨Nat.le_of_ble_eq_true rfl, Nat.le_of_ble_eq_true rfl⟩ (fun r xa1 G1 H locs hp hW => ?_)
  subst hp
  refine va_forget (fun q hq => hAA _ (hW.S.2.2 q hq)) ?_
  refine W.widen (k := 697503) (n := 7009189) (Nat.le_of_ble_eq_true rfl) (Nat.le_of_ble_eq_true rfl) ?_
  exact lw_ret hx hb hr hlocks dL_law_4
