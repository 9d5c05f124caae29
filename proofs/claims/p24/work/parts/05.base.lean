/-! THE WORLD OF A RUN: codes (k, i) stand for cells; 'xa' says where each lies, 'G' what it holds (none: no such cell yet). -/
abbrev xD : Type := va_G × (Nat → ClassId)
abbrev xG : Type := Nat → Nat → Option va_E
abbrev xA : Type := Nat → Nat → Nat
abbrev xtys (D : xD) : List (ClassId × FieldType) := [(D.2 0, .object "Restitutory$Person"), (D.2 1, .object "Restitutory$Persecution"), (D.2 2, .object "Restitutory$Thing"), (D.2 3, .object "Restitutory$Station"), (D.2 4, .int), (D.2 5, .int), (D.2 6, .long)]
def xup (G : xG) (k i : Nat) (e : va_E) : xG := fun k' i' => if k' = k ∧ i' = i then some e else G k' i'
def xaup (xa : xA) (k i q : Nat) : xA := fun k' i' => if k' = k ∧ i' = i then q else xa k' i'
theorem xup_self (G : xG) (k i : Nat) (e : va_E) : xup G k i e k i = some e := by simp [xup]
theorem xup_ne (G : xG) {k i k' i' : Nat} (e : va_E) (h : ¬ (k' = k ∧ i' = i)) : xup G k i e k' i' = G k' i' := by simp [xup, h]
theorem xaup_self (xa : xA) (k i q : Nat) : xaup xa k i q k i = q := by simp [xaup]
theorem xaup_ne (xa : xA) {k i k' i' : Nat} (q : Nat) (h : ¬ (k' = k ∧ i' = i)) : xaup xa k i q k' i' = xa k' i' := by simp [xaup, h]
def xWp (D : xD) (xa : xA) (G : xG) (H : Heap) : Prop := (∀ (k i : Nat) (e : va_E), G k i = some e → va_at D.1 vwCl (xa k i, e) H) ∧ ∀ k i k' i' : Nat, G k i ≠ none → G k' i' ≠ none → xa k i = xa k' i' → k = k' ∧ i = i'
def xAw (xa : xA) (G : xG) (sz : Nat) : Nat → Prop := fun q => (∃ k i : Nat, G k i ≠ none ∧ xa k i = q) ∨ sz ≤ q
def xStrs : List (Nat × String) := [(44, "there are 12 people"), (60, "the person is dead"), (64, "nobody is an heir of oneself"), (77, "the heir was told"), (89, "there are 20 persecutions"), (98, "there are 10 things"), (111, "the thing has 8 stations"), (133, "the station is not BOUGHT"), (159, "there is no place below 0"), (190, "there is no such group"), (192, "there is no such land"), (194, "an argument is out of its range"), (196, "there is no such person"), (198, "there is no such thing"), (200, "there is no such station")]
def xIob : String := "java/lang/IndexOutOfBoundsException"
def xIse : String := "java/lang/IllegalStateException"
def xIae : String := "java/lang/IllegalArgumentException"
def xExc : List String := [xIob, xIse, xIae]
def xDec : List String := ["java/lang/RuntimeException", "java/lang/Exception", Bundle.tN]
def xArrs : List String := ["Restitutory$Person", "Restitutory$Persecution", "Restitutory$Thing", "Restitutory$Station"]
def xEv (sa : Nat → Nat) (A : Nat → Prop) (U : State) (H : Heap) : Prop := vx_Zq Bundle.tN "UNASSIGNED_STACK" Bundle.steD A U H ∧ vx_Zq Bundle.tN "SUPPRESSED_SENTINEL" Bundle.listD A U H ∧ (∀ q ∈ xStrs, vk_R RX4 q.1 q.2 (sa q.1) U) ∧ (∀ E ∈ xExc, va_Nw (.castable E E) U) ∧ (∀ y ∈ xDec, va_Nw (.declares (Bundle.initS y)) U) ∧ (∀ E ∈ xExc, ∀ F ∈ xExc, E ≠ F → va_Nc E F U) ∧ ∀ C ∈ xArrs, va_AO C U
/-- what holds in a walk: the cells, apart, what may be written, the tables, what a throw needs -/
def xW (D : xD) (sa : Nat → Nat) (A : Nat → Prop) (s : State) (xa : xA) (G : xG) (H : Heap) (locs : List Loc) : Prop :=
  xWp D xa G H ∧ (∀ k i : Nat, G k i ≠ none → A (xa k i)) ∧ (∀ q, s.heap.size ≤ q → A q) ∧ va_S A s.heap H locs ∧ va_K D.1 vwCl (xtys D) s ∧ xEv sa A s s.heap
/-- a method's start -/
def xPs (D : xD) (sa : Nat → Nat) (xa : xA) (G : xG) (sz : Nat) : State → Prop := fun U => U.heap.size = sz ∧ xWp D xa G U.heap ∧ va_K D.1 vwCl (xtys D) U ∧ xEv sa (xAw xa G sz) U U.heap
/-- a method's end -/
def xB (D : xD) (A : Nat → Prop) (u : xA × xG) (t : State) : Prop := xWp D u.1 u.2 t.heap ∧ (∀ k i : Nat, u.2 k i ≠ none → A (u.1 k i)) ∧ va_K D.1 vwCl (xtys D) t
def xX (D : xD) (A : Nat → Prop) (xa : xA) (G : xG) (pex : String → Prop) : String → State → State → Prop := vx_X (fun _ : xA × xG => True) (fun E u t => pex E ∧ u = (xa, G) ∧ xB D A u t) A
/-- contracts: that return an int, nothing, a reference; that may throw -/
def xCi (l : Launch) (y : MethodName) (ws : List Cond) (rm : Room) (D : xD) (sa : Nat → Nat) (xa : xA) (G : xG) (av : List Value) (post : Int32 → xA × xG → Prop) (mc ms : Nat) : Prop :=
  ∀ sz : Nat, Met l y ws rm (va_Pc av (xPs D sa xa G sz)) (va_Qi post (xB D (xAw xa G sz)) (xAw xa G sz)) mc ms (xAw xa G sz)
def xCv (l : Launch) (y : MethodName) (ws : List Cond) (rm : Room) (D : xD) (sa : Nat → Nat) (xa : xA) (G : xG) (av : List Value) (post : xA × xG → Prop) (mc ms : Nat) : Prop :=
  ∀ sz : Nat, Met l y ws rm (va_Pc av (xPs D sa xa G sz)) (va_Qv post (xB D (xAw xa G sz)) (xAw xa G sz)) mc ms (xAw xa G sz)
def xCq (l : Launch) (y : MethodName) (ws : List Cond) (rm : Room) (D : xD) (sa : Nat → Nat) (xa : xA) (G : xG) (av : List Value) (post : Option Nat → xA × xG → Prop) (mc ms : Nat) : Prop :=
  ∀ sz : Nat, Met l y ws rm (va_Pc av (xPs D sa xa G sz)) (va_Qq post (xB D (xAw xa G sz)) (xAw xa G sz)) mc ms (xAw xa G sz)
def xXi (l : Launch) (y : MethodName) (ws : List Cond) (rm : Room) (D : xD) (sa : Nat → Nat) (xa : xA) (G : xG) (av : List Value) (post : Int32 → xA × xG → Prop) (pex : String → Prop) (mc ms : Nat) : Prop :=
  ∀ sz : Nat, vx_Met l y ws rm (va_Pc av (xPs D sa xa G sz)) (va_Qi post (xB D (xAw xa G sz)) (xAw xa G sz)) (xX D (xAw xa G sz) xa G pex) mc ms (xAw xa G sz)
def xXv (l : Launch) (y : MethodName) (ws : List Cond) (rm : Room) (D : xD) (sa : Nat → Nat) (xa : xA) (G : xG) (av : List Value) (post : xA × xG → Prop) (pex : String → Prop) (mc ms : Nat) : Prop :=
  ∀ sz : Nat, vx_Met l y ws rm (va_Pc av (xPs D sa xa G sz)) (va_Qv post (xB D (xAw xa G sz)) (xAw xa G sz)) (xX D (xAw xa G sz) xa G pex) mc ms (xAw xa G sz)
def xXr (l : Launch) (y : MethodName) (ws : List Cond) (rm : Room) (D : xD) (sa : Nat → Nat) (xa : xA) (G : xG) (av : List Value) (post : Nat → xA × xG → Prop) (pex : String → Prop) (mc ms : Nat) : Prop :=
  ∀ sz : Nat, vx_Met l y ws rm (va_Pc av (xPs D sa xa G sz)) (va_Qr (fun _ : xA × xG => True) (fun u a t => post a u ∧ xB D (xAw xa G sz) u t) (xAw xa G sz)) (xX D (xAw xa G sz) xa G pex) mc ms (xAw xa G sz)
theorem xEv.moved {sa : Nat → Nat} {A : Nat → Prop} {u U : State} {H : Heap} (hW : u.WarmedH U.vm) (h : xEv sa A u H) : xEv sa A U H := ⟨vx_Zq.moved hW.alike h.1, vx_Zq.moved hW.alike h.2.1, fun q hq => vk_R.warm hW (h.2.2.1 q hq), fun E hE => va_Nw.warmC hW (h.2.2.2.1 E hE), fun y hy => va_Nw.warmD hW (h.2.2.2.2.1 y hy), fun E hE F hF hn => va_Nc.moved hW.alike (h.2.2.2.2.2.1 E hE F hF hn), fun C hC => (h.2.2.2.2.2.2 C hC).moved hW.alike⟩
theorem xEv.kept {sa : Nat → Nat} {A : Nat → Prop} {U : State} {H H1 : Heap} (h : xEv sa A U H) (hq : ∀ a : Nat, a < H.size → ¬ A a → H1[a]? = H[a]?) : xEv sa A U H1 := ⟨h.1.kept hq, h.2.1.kept hq, h.2.2⟩
theorem xEv.narrow {sa : Nat → Nat} {A B : Nat → Prop} {U : State} {H : Heap} (h : xEv sa A U H) (hAB : ∀ q, B q → A q) : xEv sa B U H := ⟨h.1.narrow hAB, h.2.1.narrow hAB, h.2.2⟩
theorem xEv.same {sa : Nat → Nat} {A : Nat → Prop} {u U : State} {H : Heap} (hv : U.vm = u.vm) (h : xEv sa A u H) : xEv sa A U H := h.moved (by rw [hv]; exact State.WarmedH.refl u)
theorem xPs_blind {D : xD} {sa : Nat → Nat} {xa : xA} {G : xG} {sz : Nat} {av : List Value} : FrameBlind (va_Pc av (xPs D sa xa G sz)) := fun a U g mk q => by
  obtain ⟨q0, q1, q2, q3, q4⟩ := q
  exact ⟨q0, q1, q2, va_K.moved (u := U) (U := U.calling g mk a) (Vm.Alike.refl U.vm) q3, xEv.same (u := U) rfl q4⟩
section XW
variable {D : xD} {sa : Nat → Nat} {A : Nat → Prop} {s : State} {xa : xA} {G : xG} {H : Heap} {locs : List Loc}
theorem xW.sing (h : xW D sa A s xa G H locs) {k i : Nat} {e : va_E} (hG : G k i = some e) : va_P D.1 vwCl [(xa k i, e)] H := fun j q hq => by
  have hz : j < 1 := (List.getElem?_eq_some_iff.mp hq).1
  rw [show j = 0 by omega] at hq
  cases hq
  exact h.1.1 k i e hG
theorem xW.K (h : xW D sa A s xa G H locs) : va_K D.1 vwCl (xtys D) s := h.2.2.2.2.1
theorem xW.AO {args : Array Value} (h : xW D sa A s xa G H locs) {C : String} (hC : C ∈ xArrs) : (Cond.arrayOver (.object C)).before args s = true := (h.2.2.2.2.2.2.2.2.2.2.2 C hC).use
theorem xW.S (h : xW D sa A s xa G H locs) : va_S A s.heap H locs := h.2.2.2.1
theorem xW.lt (h : xW D sa A s xa G H locs) {k i : Nat} {e : va_E} (hG : G k i = some e) : xa k i < H.size := (h.1.1 k i e hG).lt
theorem xW.inj (h : xW D sa A s xa G H locs) {k i k' i' : Nat} {e e' : va_E} (h1 : G k i = some e) (h2 : G k' i' = some e') (he : xa k i = xa k' i') : k = k' ∧ i = i' := h.1.2 k i k' i' (by rw [h1]; exact fun z => by cases z) (by rw [h2]; exact fun z => by cases z) he
/-- a cell is written -/
theorem xW.set (h : xW D sa A s xa G H locs) {k i j : Nat} {e0 e : va_E} {H1 : Heap} (hG : G k i = some e0) (he : va_at D.1 vwCl (xa k i, e) H1) (z : H1.size = H.size) (oq : ∀ q : Nat, q ≠ xa k i → H1[q]? = H[q]?) : xW D sa A s xa (xup G k i e) H1 (locs ++ [⟨xa k i, j⟩]) := by
  have hne : G k i ≠ none := by rw [hG]; exact fun z => by cases z
  have dom : ∀ k' i' : Nat, xup G k i e k' i' ≠ none → G k' i' ≠ none := by
    intro k' i' hk
    by_cases hq : k' = k ∧ i' = i
    · obtain ⟨rfl, rfl⟩ := hq
      exact hne
    · rwa [xup_ne G e hq] at hk
  refine ⟨⟨fun k' i' e' hk => ?_, fun k1 i1 k2 i2 h1 h2 => h.1.2 k1 i1 k2 i2 (dom _ _ h1) (dom _ _ h2)⟩, fun k' i' hk => h.2.1 k' i' (dom _ _ hk), h.2.2.1, h.S.put z oq (h.2.1 k i hne), h.K, h.2.2.2.2.2⟩
  by_cases hq : k' = k ∧ i' = i
  · obtain ⟨rfl, rfl⟩ := hq
    rw [xup_self] at hk
    cases hk
    exact he
  · rw [xup_ne G e hq] at hk
    refine (h.1.1 k' i' e' hk).kept (oq _ fun hz => hq (h.1.2 k' i' k i (by rw [hk]; exact fun z => by cases z) hne hz))
/-- a cell comes -/
theorem xW.push (h : xW D sa A s xa G H locs) {k i : Nat} {e : va_E} {H1 : Heap} (hG : G k i = none) (he : va_at D.1 vwCl (H.size, e) H1) (z : H1.size = H.size + 1) (oq : ∀ q : Nat, q < H.size → H1[q]? = H[q]?) : xW D sa A s (xaup xa k i H.size) (xup G k i e) H1 locs := by
  have old : ∀ k' i' : Nat, G k' i' ≠ none → ¬ (k' = k ∧ i' = i) := fun k' i' hk hq => hk (by rw [hq.1, hq.2]; exact hG)
  have lt : ∀ k' i' : Nat, G k' i' ≠ none → xa k' i' < H.size := fun k' i' hk => by
    obtain ⟨e', he'⟩ := Option.ne_none_iff_exists'.mp hk
    exact h.lt he'
  have cse : ∀ k' i' : Nat, xup G k i e k' i' ≠ none → (k' = k ∧ i' = i ∧ xaup xa k i H.size k' i' = H.size) ∨ (G k' i' ≠ none ∧ xaup xa k i H.size k' i' = xa k' i') := by
    intro k' i' hk
    by_cases hq : k' = k ∧ i' = i
    · exact Or.inl ⟨hq.1, hq.2, by simp [xaup, hq]⟩
    · rw [xup_ne G e hq] at hk
      exact Or.inr ⟨hk, by simp [xaup, hq]⟩
  refine ⟨⟨fun k' i' e' hk => ?_, fun k1 i1 k2 i2 h1 h2 hx => ?_⟩, fun k' i' hk => ?_, h.2.2.1, ⟨Nat.le_trans h.S.1 (by omega), fun q h1 h2 => (oq q (Nat.lt_of_lt_of_le h1 h.S.1)).trans (h.S.2.1 q h1 h2), h.S.2.2⟩, h.K, h.2.2.2.2.2⟩
  · by_cases hq : k' = k ∧ i' = i
    · obtain ⟨rfl, rfl⟩ := hq
      rw [xup_self] at hk
      cases hk
      rw [xaup_self]
      exact he
    · rw [xup_ne G e hq] at hk
      rw [xaup_ne xa _ hq]
      exact (h.1.1 k' i' e' hk).kept (oq _ (h.lt hk))
  · rcases cse _ _ h1 with ⟨a1, a2, a3⟩ | ⟨a1, a2⟩ <;> rcases cse _ _ h2 with ⟨b1, b2, b3⟩ | ⟨b1, b2⟩
    · exact ⟨a1.trans b1.symm, a2.trans b2.symm⟩
    · rw [a3, b2] at hx
      exact absurd hx (Nat.ne_of_gt (lt _ _ b1))
    · rw [a2, b3] at hx
      exact absurd hx (Nat.ne_of_lt (lt _ _ a1))
    · rw [a2, b2] at hx
      exact h.1.2 _ _ _ _ a1 b1 hx
  · rcases cse _ _ hk with ⟨a1, a2, a3⟩ | ⟨a1, a2⟩
    · rw [a3]
      exact h.2.2.1 _ h.S.1
    · rw [a2]
      exact h.2.1 _ _ a1
/-- the same world by other words -/
theorem xW.to (h : xW D sa A s xa G H locs) {xa1 : xA} {G1 : xG} (h1 : ∀ (k i : Nat) (e : va_E), G1 k i = some e → G k i = some e ∧ xa1 k i = xa k i) : xW D sa A s xa1 G1 H locs := by
  have dom : ∀ k' i' : Nat, G1 k' i' ≠ none → G k' i' ≠ none ∧ xa1 k' i' = xa k' i' := fun k' i' hk => by
    obtain ⟨e', he'⟩ := Option.ne_none_iff_exists'.mp hk
    exact ⟨(by rw [(h1 _ _ _ he').1]; exact (fun z => nomatch z)), (h1 _ _ _ he').2⟩
  refine ⟨⟨fun k i e hk => by rw [(h1 k i e hk).2]; exact h.1.1 k i e (h1 k i e hk).1, fun k1 i1 k2 i2 ha hb hx => ?_⟩, fun k i hk => by rw [(dom k i hk).2]; exact h.2.1 k i (dom k i hk).1, h.2.2⟩
  rw [(dom _ _ ha).2, (dom _ _ hb).2] at hx
  exact h.1.2 _ _ _ _ (dom _ _ ha).1 (dom _ _ hb).1 hx
theorem xW.eqG (h : xW D sa A s xa G H locs) {G1 : xG} (h1 : G1 = G) : xW D sa A s xa G1 H locs := by rw [h1]; exact h
theorem xW.B (h : xW D sa A s xa G H locs) {t : State} (ht : t.heap = H) (hv : s.vm.Alike t.vm) : xB D A (xa, G) t := ⟨by rw [ht]; exact h.1, h.2.1, va_K.moved hv h.K⟩
theorem xW.start (h : xPs D sa xa G s.heap.size s) : xW D sa (xAw xa G s.heap.size) s xa G s.heap [] := ⟨h.2.1, fun k i hk => Or.inl ⟨k, i, hk, rfl⟩, fun q hq => Or.inr hq, va_S.rf, h.2.2.1, h.2.2.2⟩
theorem xW.sub (h : xW D sa A s xa G H locs) : ∀ q, xAw xa G H.size q → A q := by
  rintro q (⟨k, i, hk, rfl⟩ | hq)
  · exact h.2.1 k i hk
  · exact h.2.2.1 q (Nat.le_trans h.S.1 hq)
/-- what a callee finds -/
theorem xW.pre (h : xW D sa A s xa G H locs) {U : State} (hU : U.heap = H) (hW : s.WarmedH U.vm) : xPs D sa xa G H.size U := by
  refine ⟨by rw [hU], by rw [hU]; exact h.1, va_K.moved hW.alike h.K, ?_⟩
  rw [hU]
  exact xEv.moved hW ((h.2.2.2.2.2.kept h.S.2.1).narrow h.sub)
/-- .. and leaves -/
theorem xW.post (h : xW D sa A s xa G H locs) {u : xA × xG} {t : State} {H1 : Heap} {locs1 : List Loc} (ht : t.heap = H1) (hB : xB D (xAw xa G H.size) u t) (hS : va_S A s.heap H1 locs1) : xW D sa A s u.1 u.2 H1 locs1 := ⟨by rw [← ht]; exact hB.1, fun k i hk => h.sub _ (hB.2.1 k i hk), h.2.2.1, hS, h.K, h.2.2.2.2.2⟩
theorem xW.recv (h : xW D sa A s xa G H locs) {k i ci : Nat} {fs : List Value} {q : vw_C} (hG : G k i = some (.inr (ci, fs))) (hc : vwCl[ci]? = some q) : ∃ cell : Cell, H[xa k i]? = some cell ∧ cell.vm.isStatics = false ∧ s.vm.findClass q.1 = some cell.cls := va_recv h.K (h.sing hG) (q0 := 0) hc rfl
end XW
